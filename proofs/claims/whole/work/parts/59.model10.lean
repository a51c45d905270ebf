/-! the reference: images; new soap; what is told; draws; refusals -/
def cpI (j i : Nat) (f g : Nat → Int32) : Nat → Int32 := fun q => if 32 * j ≤ q ∧ q < 32 * j + i then f (q - 32 * j) else g q
theorem cpI_0 (j : Nat) (f g : Nat → Int32) : cpI j 0 f g = g := by
  funext q
  unfold cpI
  rw [if_neg (by omega)]
theorem cpI_up (j i : Nat) (f g : Nat → Int32) : upd (cpI j i f g) (32 * j + i) (f i) = cpI j (i + 1) f g := by
  funext q
  unfold upd cpI
  by_cases h : q = 32 * j + i
  · rw [if_pos h, if_pos (by omega), show q - 32 * j = i by omega]
  · rw [if_neg h]
    by_cases h2 : 32 * j ≤ q ∧ q < 32 * j + i
    · rw [if_pos h2, if_pos (by omega)]
    · rw [if_neg h2, if_neg (by omega)]
theorem inI_N {v a b : Nat} (ha : a ≤ v) (hb : v ≤ b) (h : b < 2 ^ 31) : inI (nI v) (nI a) (nI b) = true := by
  unfold inI
  rw [Bool.and_eq_true]
  exact ⟨decide_eq_true (nI_nlt ha (by omega)), decide_eq_true (nI_nlt hb h)⟩
theorem in01 {x : Int32} : inI x (nI 0) (nI 1) = inR x 2 := by
  unfold inI inR
  have h1 : (¬ nI 1 < x) ↔ x < nI 2 := by
    rw [Int32.lt_iff_toInt_lt, Int32.lt_iff_toInt_lt, nI_toInt (by omega), nI_toInt (by omega)]
    omega
  rw [decide_eq_decide.mpr h1]
  rfl
set_option maxRecDepth 20000 in
theorem c_X7_keepF (sk : Nat → Nat) {h mt mo md ms mn mi mz mk mw mf mr mb mu : Nat} {ty li se fAt at_ so sta sz fl ru : Int32} {iha isn : Bool} {s : PSt} {fi fz fk : Nat → Int32} {x : Int32} (hx : inR x 2 = false) : Ct sk yX7_keep cX7_keep 3 (some .int) 1 0 0 [oMod h mt ty mo md ms mn mi mz mk mw mf li se fAt at_ so sta sz fl iha isn ru mr mb mu, cI ms 32 (fS s), cI mi 64 fi, cI mz 2 fz, cZ mk 2 fk] [.ref h, .int x] (zD (some (.int (-1000000001))) [oMod h mt ty mo md ms mn mi mz mk mw mf li se fAt at_ so sta sz fl iha isn ru mr mb mu, cI ms 32 (fS s), cI mi 64 fi, cI mz 2 fz, cZ mk 2 fk]) := by
  refine Ct.of (own := RX7) (l := [some (.ref h), some (.int x), none]) (by decide) rfl (Nat.le_of_ble_eq_true rfl) rfl ?_
  refine g_iload_n dX7_keep_0 rfl rfl ?_
  refine g_iconst (v := nI 0) dX7_keep_1 rfl (by decide) ?_
  refine g_iconst (v := nI 1) dX7_keep_2 rfl (by decide) ?_
  refine g_callS (c_X7_in sk) m_X7_61 a_X7_in dX7_keep_3 rfl [] rfl rfl rfl rfl (by decide) (by decide) (by decide) (by decide) (Nat.le_of_ble_eq_true rfl) (fun r w hK => ?_)
  obtain ⟨rfl, rfl⟩ := hK
  refine ⟨rfl, ?_⟩
  rw [in01, hx]
  dsimp only [puts, List.set, Option.toList, List.cons_append, List.nil_append, List.append_nil]
  refine g_if_neB (t := 12) dX7_keep_6 (by decide) rfl (fun h6 => ?_) (fun h6 => ?_)
  · exact absurd h6 (by decide)
  · skip
    refine g_ldc dX7_keep_9 rfl k_X7_161 ?_
    exact g_iret dX7_keep_11 rfl (Nat.le_refl _) (Nat.le_refl _) (⟨rfl, rfl⟩)
set_option maxRecDepth 20000 in
theorem c_X7_goBackF (sk : Nat → Nat) {h mt mo md ms mn mi mz mk mw mf mr mb mu : Nat} {ty li se fAt at_ so sta sz fl ru : Int32} {iha isn : Bool} {s : PSt} {fi fz fk : Nat → Int32} {x : Int32} (hx : inR x 2 = false) : Ct sk yX7_goBack cX7_goBack 3 (some .int) 1 0 0 [oMod h mt ty mo md ms mn mi mz mk mw mf li se fAt at_ so sta sz fl iha isn ru mr mb mu, cI ms 32 (fS s), cI mi 64 fi, cI mz 2 fz, cZ mk 2 fk] [.ref h, .int x] (zD (some (.int (-1000000001))) [oMod h mt ty mo md ms mn mi mz mk mw mf li se fAt at_ so sta sz fl iha isn ru mr mb mu, cI ms 32 (fS s), cI mi 64 fi, cI mz 2 fz, cZ mk 2 fk]) := by
  refine Ct.of (own := RX7) (l := [some (.ref h), some (.int x), none]) (by decide) rfl (Nat.le_of_ble_eq_true rfl) rfl ?_
  refine g_iload_n dX7_goBack_0 rfl rfl ?_
  refine g_iconst (v := nI 0) dX7_goBack_1 rfl (by decide) ?_
  refine g_iconst (v := nI 1) dX7_goBack_2 rfl (by decide) ?_
  refine g_callS (c_X7_in sk) m_X7_61 a_X7_in dX7_goBack_3 rfl [] rfl rfl rfl rfl (by decide) (by decide) (by decide) (by decide) (Nat.le_of_ble_eq_true rfl) (fun r w hK => ?_)
  obtain ⟨rfl, rfl⟩ := hK
  refine ⟨rfl, ?_⟩
  rw [in01, hx]
  dsimp only [puts, List.set, Option.toList, List.cons_append, List.nil_append, List.append_nil]
  refine g_if_neB (t := 12) dX7_goBack_6 (by decide) rfl (fun h6 => ?_) (fun h6 => ?_)
  · exact absurd h6 (by decide)
  · skip
    refine g_ldc dX7_goBack_9 rfl k_X7_161 ?_
    exact g_iret dX7_goBack_11 rfl (Nat.le_refl _) (Nat.le_refl _) (⟨rfl, rfl⟩)
set_option maxRecDepth 20000 in
theorem lp_keep (sk : Nat → Nat) {h mt mo md ms mn mi mz mk mw mf mr mb mu : Nat} {ty li se fAt at_ so sta sz fl ru : Int32} {iha isn : Bool} {s : PSt} {fi fz fk : Nat → Int32} {j : Nat} (hj : j < 2) : ∀ (n i : Nat), i + n = 32 → GG sk RX7 yX7_keep cX7_keep 3 (some .int) 1 0 0 (zD (some (.int (nI 1))) [oMod h mt ty mo md ms mn mi mz mk mw mf li se fAt at_ so sta sz fl iha isn ru mr mb mu, cI ms 32 (fS s), cI mi 64 (cpI j 32 (fS s) fi), cI mz 2 (upd fz j se), cZ mk 2 (upd fk j (zb true))]) 0 0 14 [some (.ref h), some (.int (nI j)), some (.int (nI i))] [] [oMod h mt ty mo md ms mn mi mz mk mw mf li se fAt at_ so sta sz fl iha isn ru mr mb mu, cI ms 32 (fS s), cI mi 64 (cpI j i (fS s) fi), cI mz 2 fz, cZ mk 2 fk] := by
  intro n
  induction n with
  | zero =>
    intro i hi
    have e : i = 32 := by omega
    subst e
    refine g_iload_n dX7_keep_14 rfl rfl ?_
    refine g_bipush (v := nI 32) dX7_keep_15 rfl (by decide) ?_
    refine g_icmp_geN (t := 43) dX7_keep_17 (by decide) rfl (by omega) (by omega) (fun h17 => ?_) (fun h17 => ?_)
    · skip
      refine g_aload_n dX7_keep_43 rfl rfl ?_
      refine g_get f_X7_28 dX7_keep_44 rfl 0 rfl rfl ?_
      refine g_iload_n dX7_keep_47 rfl rfl ?_
      refine g_aload_n dX7_keep_48 rfl rfl ?_
      refine g_get f_X7_183 dX7_keep_49 rfl 0 rfl rfl ?_
      refine g_iastN dX7_keep_52 rfl 3 rfl (by omega) (by decide) (rfl) rfl ?_
      refine g_aload_n dX7_keep_53 rfl rfl ?_
      refine g_get f_X7_31 dX7_keep_54 rfl 0 rfl rfl ?_
      refine g_iload_n dX7_keep_57 rfl rfl ?_
      refine g_iconst (v := nI 1) dX7_keep_58 rfl (by decide) ?_
      refine g_zastN (b := true) dX7_keep_59 rfl 4 rfl (by omega) (by decide) (rfl) rfl ?_
      refine g_iconst (v := nI 1) dX7_keep_60 rfl (by decide) ?_
      exact g_iret dX7_keep_61 rfl (Nat.le_refl _) (Nat.le_refl _) (⟨rfl, rfl⟩)
    · exact absurd h17 (by omega)
  | succ n ih =>
    intro i hi
    refine g_iload_n dX7_keep_14 rfl rfl ?_
    refine g_bipush (v := nI 32) dX7_keep_15 rfl (by decide) ?_
    refine g_icmp_geN (t := 43) dX7_keep_17 (by decide) rfl (by omega) (by omega) (fun h17 => ?_) (fun h17 => ?_)
    · exact absurd h17 (by omega)
    · skip
      refine g_aload_n dX7_keep_20 rfl rfl ?_
      refine g_get f_X7_25 dX7_keep_21 rfl 0 rfl rfl ?_
      refine g_bipush (v := nI 32) dX7_keep_24 rfl (by decide) ?_
      refine g_iload_n dX7_keep_26 rfl rfl ?_
      refine g_imul dX7_keep_27 rfl (pk_mul _ _) ?_
      refine g_iload_n dX7_keep_28 rfl rfl ?_
      refine g_iadd dX7_keep_29 rfl (nI_add _ _) ?_
      refine g_aload_n dX7_keep_30 rfl rfl ?_
      refine g_get f_X7_19 dX7_keep_31 rfl 0 rfl rfl ?_
      refine g_iload_n dX7_keep_34 rfl rfl ?_
      refine g_ialdN (v := fS s i) dX7_keep_35 rfl 1 rfl (by omega) (by decide) (rfl) ?_
      refine g_iastN dX7_keep_36 rfl 2 rfl (by omega) (by decide) (cpI_up j i (fS s) fi) rfl ?_
      refine g_iinc dX7_keep_37 rfl rfl (nI_1 _) (by decide) rfl rfl ?_
      refine g_goto (q := 14) dX7_keep_40 (by decide) ?_
      exact ih (i + 1) (by omega)
set_option maxRecDepth 20000 in
theorem c_X7_keepT (sk : Nat → Nat) {h mt mo md ms mn mi mz mk mw mf mr mb mu : Nat} {ty li se fAt at_ so sta sz fl ru : Int32} {iha isn : Bool} {s : PSt} {fi fz fk : Nat → Int32} {j : Nat} (hj : j < 2) : Ct sk yX7_keep cX7_keep 3 (some .int) 1 0 0 [oMod h mt ty mo md ms mn mi mz mk mw mf li se fAt at_ so sta sz fl iha isn ru mr mb mu, cI ms 32 (fS s), cI mi 64 fi, cI mz 2 fz, cZ mk 2 fk] [.ref h, .int (nI j)] (zD (some (.int (nI 1))) [oMod h mt ty mo md ms mn mi mz mk mw mf li se fAt at_ so sta sz fl iha isn ru mr mb mu, cI ms 32 (fS s), cI mi 64 (cpI j 32 (fS s) fi), cI mz 2 (upd fz j se), cZ mk 2 (upd fk j (zb true))]) := by
  refine Ct.of (own := RX7) (l := [some (.ref h), some (.int (nI j)), none]) (by decide) rfl (Nat.le_of_ble_eq_true rfl) rfl ?_
  refine g_iload_n dX7_keep_0 rfl rfl ?_
  refine g_iconst (v := nI 0) dX7_keep_1 rfl (by decide) ?_
  refine g_iconst (v := nI 1) dX7_keep_2 rfl (by decide) ?_
  refine g_callS (c_X7_in sk) m_X7_61 a_X7_in dX7_keep_3 rfl [] rfl rfl rfl rfl (by decide) (by decide) (by decide) (by decide) (Nat.le_of_ble_eq_true rfl) (fun r w hK => ?_)
  obtain ⟨rfl, rfl⟩ := hK
  refine ⟨rfl, ?_⟩
  rw [in01, inR_N hj (by decide)]
  dsimp only [puts, List.set, Option.toList, List.cons_append, List.nil_append, List.append_nil]
  refine g_if_neB (t := 12) dX7_keep_6 (by decide) rfl (fun h6 => ?_) (fun h6 => ?_)
  · skip
    refine g_iconst (v := nI 0) dX7_keep_12 rfl (by decide) ?_
    refine g_istore_n dX7_keep_13 rfl (by decide) rfl rfl ?_
    have h0 := lp_keep sk (h := h) (mt := mt) (mo := mo) (md := md) (ms := ms) (mn := mn) (mi := mi) (mz := mz) (mk := mk) (mw := mw) (mf := mf) (mr := mr) (mb := mb) (mu := mu) (ty := ty) (li := li) (se := se) (fAt := fAt) (at_ := at_) (so := so) (sta := sta) (sz := sz) (fl := fl) (ru := ru) (iha := iha) (isn := isn) (s := s) (fi := fi) (fz := fz) (fk := fk) (j := j) hj 32 0 (by decide)
    rw [cpI_0] at h0
    exact h0
  · exact absurd h6 (by decide)
set_option maxRecDepth 20000 in
theorem c_X7_goBackN (sk : Nat → Nat) {h mt mo md ms mn mi mz mk mw mf mr mb mu : Nat} {ty li se fAt at_ so sta sz fl ru : Int32} {iha isn : Bool} {s : PSt} {fi fz fk : Nat → Int32} {j : Nat} (hj : j < 2) (hk : fk j = zb false) : Ct sk yX7_goBack cX7_goBack 3 (some .int) 1 0 0 [oMod h mt ty mo md ms mn mi mz mk mw mf li se fAt at_ so sta sz fl iha isn ru mr mb mu, cI ms 32 (fS s), cI mi 64 fi, cI mz 2 fz, cZ mk 2 fk] [.ref h, .int (nI j)] (zD (some (.int (-1000000003))) [oMod h mt ty mo md ms mn mi mz mk mw mf li se fAt at_ so sta sz fl iha isn ru mr mb mu, cI ms 32 (fS s), cI mi 64 fi, cI mz 2 fz, cZ mk 2 fk]) := by
  refine Ct.of (own := RX7) (l := [some (.ref h), some (.int (nI j)), none]) (by decide) rfl (Nat.le_of_ble_eq_true rfl) rfl ?_
  refine g_iload_n dX7_goBack_0 rfl rfl ?_
  refine g_iconst (v := nI 0) dX7_goBack_1 rfl (by decide) ?_
  refine g_iconst (v := nI 1) dX7_goBack_2 rfl (by decide) ?_
  refine g_callS (c_X7_in sk) m_X7_61 a_X7_in dX7_goBack_3 rfl [] rfl rfl rfl rfl (by decide) (by decide) (by decide) (by decide) (Nat.le_of_ble_eq_true rfl) (fun r w hK => ?_)
  obtain ⟨rfl, rfl⟩ := hK
  refine ⟨rfl, ?_⟩
  rw [in01, inR_N hj (by decide)]
  dsimp only [puts, List.set, Option.toList, List.cons_append, List.nil_append, List.append_nil]
  refine g_if_neB (t := 12) dX7_goBack_6 (by decide) rfl (fun h6 => ?_) (fun h6 => ?_)
  · skip
    refine g_aload_n dX7_goBack_12 rfl rfl ?_
    refine g_get f_X7_31 dX7_goBack_13 rfl 0 rfl rfl ?_
    refine g_iload_n dX7_goBack_16 rfl rfl ?_
    refine g_zaldN (v := zb false) dX7_goBack_17 rfl 4 rfl (by omega) (by decide) (hk) ?_
    refine g_if_neB (t := 24) dX7_goBack_18 (by decide) rfl (fun h18 => ?_) (fun h18 => ?_)
    · exact absurd h18 (by decide)
    · skip
      refine g_ldc dX7_goBack_21 rfl k_X7_175 ?_
      exact g_iret dX7_goBack_23 rfl (Nat.le_refl _) (Nat.le_refl _) (⟨rfl, rfl⟩)
  · exact absurd h6 (by decide)
set_option maxRecDepth 20000 in
theorem lp_goBack (sk : Nat → Nat) {h mt mo md ms mn mi mz mk mw mf mr mb mu : Nat} {ty li se fAt at_ so sta sz fl ru : Int32} {iha isn : Bool} {s : PSt} {fi fz fk : Nat → Int32} {j : Nat} {t : PSt} (hj : j < 2) (ht : ∀ i, i < 32 → fi (32 * j + i) = fS t i) : ∀ (n i : Nat), i + n = 32 → GG sk RX7 yX7_goBack cX7_goBack 3 (some .int) 1 0 0 (zD (some (.int (nI 1))) [oMod h mt ty mo md ms mn mi mz mk mw mf li (fz j) fAt at_ so sta sz fl iha isn ru mr mb mu, cI ms 32 (fS t), cI mi 64 fi, cI mz 2 fz, cZ mk 2 fk]) 0 0 26 [some (.ref h), some (.int (nI j)), some (.int (nI i))] [] [oMod h mt ty mo md ms mn mi mz mk mw mf li se fAt at_ so sta sz fl iha isn ru mr mb mu, cI ms 32 (cpF_lays i (fS t) (fS s)), cI mi 64 fi, cI mz 2 fz, cZ mk 2 fk] := by
  intro n
  induction n with
  | zero =>
    intro i hi
    have e : i = 32 := by omega
    subst e
    refine g_iload_n dX7_goBack_26 rfl rfl ?_
    refine g_bipush (v := nI 32) dX7_goBack_27 rfl (by decide) ?_
    refine g_icmp_geN (t := 55) dX7_goBack_29 (by decide) rfl (by omega) (by omega) (fun h29 => ?_) (fun h29 => ?_)
    · skip
      refine g_aload_n dX7_goBack_55 rfl rfl ?_
      refine g_aload_n dX7_goBack_56 rfl rfl ?_
      refine g_get f_X7_28 dX7_goBack_57 rfl 0 rfl rfl ?_
      refine g_iload_n dX7_goBack_60 rfl rfl ?_
      refine g_ialdN (v := fz j) dX7_goBack_61 rfl 3 rfl (by omega) (by decide) (rfl) ?_
      refine g_putI f_X7_183 dX7_goBack_62 rfl 0 rfl (Nat.le_of_ble_eq_true rfl) rfl ?_
      dsimp only [List.set]
      refine g_iconst (v := nI 1) dX7_goBack_65 rfl (by decide) ?_
      refine g_cong (g := fS t) 1 rfl (fun j hj => if_pos hj) rfl ?_
      dsimp only [List.set]
      exact g_iret dX7_goBack_66 rfl (Nat.le_refl _) (Nat.le_refl _) (⟨rfl, rfl⟩)
    · exact absurd h29 (by omega)
  | succ n ih =>
    intro i hi
    refine g_iload_n dX7_goBack_26 rfl rfl ?_
    refine g_bipush (v := nI 32) dX7_goBack_27 rfl (by decide) ?_
    refine g_icmp_geN (t := 55) dX7_goBack_29 (by decide) rfl (by omega) (by omega) (fun h29 => ?_) (fun h29 => ?_)
    · exact absurd h29 (by omega)
    · skip
      refine g_aload_n dX7_goBack_32 rfl rfl ?_
      refine g_get f_X7_19 dX7_goBack_33 rfl 0 rfl rfl ?_
      refine g_iload_n dX7_goBack_36 rfl rfl ?_
      refine g_aload_n dX7_goBack_37 rfl rfl ?_
      refine g_get f_X7_25 dX7_goBack_38 rfl 0 rfl rfl ?_
      refine g_bipush (v := nI 32) dX7_goBack_41 rfl (by decide) ?_
      refine g_iload_n dX7_goBack_43 rfl rfl ?_
      refine g_imul dX7_goBack_44 rfl (pk_mul _ _) ?_
      refine g_iload_n dX7_goBack_45 rfl rfl ?_
      refine g_iadd dX7_goBack_46 rfl (nI_add _ _) ?_
      refine g_ialdN (v := fS t i) dX7_goBack_47 rfl 2 rfl (by omega) (by decide) (ht i (by omega)) ?_
      refine g_iastN dX7_goBack_48 rfl 1 rfl (by omega) (by decide) (cpF_up i (fS t) (fS s)) rfl ?_
      refine g_iinc dX7_goBack_49 rfl rfl (nI_1 _) (by decide) rfl rfl ?_
      refine g_goto (q := 26) dX7_goBack_52 (by decide) ?_
      exact ih (i + 1) (by omega)
set_option maxRecDepth 20000 in
theorem c_X7_goBackT (sk : Nat → Nat) {h mt mo md ms mn mi mz mk mw mf mr mb mu : Nat} {ty li se fAt at_ so sta sz fl ru : Int32} {iha isn : Bool} {s : PSt} {fi fz fk : Nat → Int32} {j : Nat} {t : PSt} (hj : j < 2) (hk : fk j = zb true) (ht : ∀ i, i < 32 → fi (32 * j + i) = fS t i) : Ct sk yX7_goBack cX7_goBack 3 (some .int) 1 0 0 [oMod h mt ty mo md ms mn mi mz mk mw mf li se fAt at_ so sta sz fl iha isn ru mr mb mu, cI ms 32 (fS s), cI mi 64 fi, cI mz 2 fz, cZ mk 2 fk] [.ref h, .int (nI j)] (zD (some (.int (nI 1))) [oMod h mt ty mo md ms mn mi mz mk mw mf li (fz j) fAt at_ so sta sz fl iha isn ru mr mb mu, cI ms 32 (fS t), cI mi 64 fi, cI mz 2 fz, cZ mk 2 fk]) := by
  refine Ct.of (own := RX7) (l := [some (.ref h), some (.int (nI j)), none]) (by decide) rfl (Nat.le_of_ble_eq_true rfl) rfl ?_
  refine g_iload_n dX7_goBack_0 rfl rfl ?_
  refine g_iconst (v := nI 0) dX7_goBack_1 rfl (by decide) ?_
  refine g_iconst (v := nI 1) dX7_goBack_2 rfl (by decide) ?_
  refine g_callS (c_X7_in sk) m_X7_61 a_X7_in dX7_goBack_3 rfl [] rfl rfl rfl rfl (by decide) (by decide) (by decide) (by decide) (Nat.le_of_ble_eq_true rfl) (fun r w hK => ?_)
  obtain ⟨rfl, rfl⟩ := hK
  refine ⟨rfl, ?_⟩
  rw [in01, inR_N hj (by decide)]
  dsimp only [puts, List.set, Option.toList, List.cons_append, List.nil_append, List.append_nil]
  refine g_if_neB (t := 12) dX7_goBack_6 (by decide) rfl (fun h6 => ?_) (fun h6 => ?_)
  · skip
    refine g_aload_n dX7_goBack_12 rfl rfl ?_
    refine g_get f_X7_31 dX7_goBack_13 rfl 0 rfl rfl ?_
    refine g_iload_n dX7_goBack_16 rfl rfl ?_
    refine g_zaldN (v := zb true) dX7_goBack_17 rfl 4 rfl (by omega) (by decide) (hk) ?_
    refine g_if_neB (t := 24) dX7_goBack_18 (by decide) rfl (fun h18 => ?_) (fun h18 => ?_)
    · skip
      refine g_iconst (v := nI 0) dX7_goBack_24 rfl (by decide) ?_
      refine g_istore_n dX7_goBack_25 rfl (by decide) rfl rfl ?_
      have h0 := lp_goBack sk (h := h) (mt := mt) (mo := mo) (md := md) (ms := ms) (mn := mn) (mi := mi) (mz := mz) (mk := mk) (mw := mw) (mf := mf) (mr := mr) (mb := mb) (mu := mu) (ty := ty) (li := li) (se := se) (fAt := fAt) (at_ := at_) (so := so) (sta := sta) (sz := sz) (fl := fl) (ru := ru) (iha := iha) (isn := isn) (s := s) (fi := fi) (fz := fz) (fk := fk) (j := j) hj ht 32 0 (by decide)
      rw [cpF_0] at h0
      exact h0
    · exact absurd h18 (by decide)
  · exact absurd h6 (by decide)
theorem fS_ad {sl : Nat → Nat} {a i n v : Nat} (y : Int32 × Int32) (hi : i < 30) (ha : a ≤ i) (hv : v = min 99 (sl i + n)) : upd (fS (adS a i n sl, y)) i (nI v) = fS (adS a (i + 1) n sl, y) := by
  subst hv
  rw [fS_up _ _ hi]
  show fS (nup (adS a i n sl) i (min 99 (sl i + n)), y) = _
  rw [adS_up a i n sl ha]
theorem in199 {z : Int32} (h : inI z (nI 1) (nI 99) = false) : z < nI 1 ∨ nI 99 < z := inI_f h
set_option maxRecDepth 20000 in
theorem c_X7_soapN (sk : Nat → Nat) {h mt mo md ms mn mi mz mk mw mf mr mb mu : Nat} {ty li se fAt at_ so sta sz fl ru : Int32} {iha isn : Bool} {T : Nat → Nat} {s : PSt} {x y z : Int32} (hT : T 0 ≤ 30) (hz : ¬ soapC (T 0) x y z = 0) : Ct sk yX7_soap cX7_soap 5 (some .int) 2 0 0 [oMod h mt ty mo md ms mn mi mz mk mw mf li se fAt at_ so sta sz fl iha isn ru mr mb mu, cI mo 56 (fI T), cI ms 32 (fS s)] [.ref h, .int x, .int y, .int z] (zD (some (.int (soapC (T 0) x y z))) [oMod h mt ty mo md ms mn mi mz mk mw mf li se fAt at_ so sta sz fl iha isn ru mr mb mu, cI mo 56 (fI T), cI ms 32 (fS s)]) := by
  refine Ct.of (own := RX7) (l := [some (.ref h), some (.int x), some (.int y), some (.int z), none]) (by decide) rfl (Nat.le_of_ble_eq_true rfl) rfl ?_
  refine g_aload_n dX7_soap_0 rfl rfl ?_
  refine g_iload_n dX7_soap_1 rfl rfl ?_
  refine g_callV (c_X7_isFoot sk hT) m_X7_158 a_X7_isFoot dX7_soap_2 rfl [0, 1] rfl rfl 0 rfl rfl rfl (by decide) (by decide) (by decide) (by decide) (Nat.le_of_ble_eq_true rfl) (fun r w hK => ?_)
  obtain ⟨rfl, rfl⟩ := hK
  refine ⟨rfl, ?_⟩
  dsimp only [puts, List.set, Option.toList, List.cons_append, List.nil_append, List.append_nil]
  refine g_if_eqB (t := 16) dX7_soap_5 (by decide) rfl (fun h5 => ?_) (fun h5 => ?_)
  · rw [soapC, if_pos (Or.inl h5)]
    refine g_ldc dX7_soap_16 rfl k_X7_161 ?_
    exact g_iret dX7_soap_18 rfl (Nat.le_refl _) (Nat.le_refl _) (⟨rfl, rfl⟩)
  · skip
    refine g_aload_n dX7_soap_8 rfl rfl ?_
    refine g_iload_n dX7_soap_9 rfl rfl ?_
    refine g_callV (c_X7_isFoot sk hT) m_X7_158 a_X7_isFoot dX7_soap_10 rfl [0, 1] rfl rfl 0 rfl rfl rfl (by decide) (by decide) (by decide) (by decide) (Nat.le_of_ble_eq_true rfl) (fun r w hK => ?_)
    obtain ⟨rfl, rfl⟩ := hK
    refine ⟨rfl, ?_⟩
    dsimp only [puts, List.set, Option.toList, List.cons_append, List.nil_append, List.append_nil]
    refine g_if_neB (t := 19) dX7_soap_13 (by decide) rfl (fun h13 => ?_) (fun h13 => ?_)
    · have hn : ¬ (inR x (T 0) = false ∨ inR y (T 0) = false) := by rw [h5, h13]; decide
      refine g_iload_n dX7_soap_19 rfl rfl ?_
      refine g_iload_n dX7_soap_20 rfl rfl ?_
      refine g_icmp_lt (t := 34) dX7_soap_21 (by decide) rfl (fun h21 => ?_) (fun h21 => ?_)
      · rw [soapC, if_neg hn, if_pos (Or.inl h21)]
        refine g_ldc dX7_soap_34 rfl k_X7_65 ?_
        exact g_iret dX7_soap_36 rfl (Nat.le_refl _) (Nat.le_refl _) (⟨rfl, rfl⟩)
      · skip
        refine g_iload_n dX7_soap_24 rfl rfl ?_
        refine g_iconst (v := nI 1) dX7_soap_25 rfl (by decide) ?_
        refine g_bipush (v := nI 99) dX7_soap_26 rfl (by decide) ?_
        refine g_callS (c_X7_in sk) m_X7_61 a_X7_in dX7_soap_28 rfl [] rfl rfl rfl rfl (by decide) (by decide) (by decide) (by decide) (Nat.le_of_ble_eq_true rfl) (fun r w hK => ?_)
        obtain ⟨rfl, rfl⟩ := hK
        refine ⟨rfl, ?_⟩
        dsimp only [puts, List.set, Option.toList, List.cons_append, List.nil_append, List.append_nil]
        refine g_if_neB (t := 37) dX7_soap_31 (by decide) rfl (fun h31 => ?_) (fun h31 => ?_)
        · exact absurd (by rw [soapC, if_neg hn, if_neg (fun q => Or.elim q (fun q1 => h21 q1) (fun q2 => inI_t h31 q2))]) hz
        · rw [soapC, if_neg hn, if_pos (Or.inr (inI_f h31))]
          refine g_ldc dX7_soap_34 rfl k_X7_65 ?_
          exact g_iret dX7_soap_36 rfl (Nat.le_refl _) (Nat.le_refl _) (⟨rfl, rfl⟩)
    · rw [soapC, if_pos (Or.inr h13)]
      refine g_ldc dX7_soap_16 rfl k_X7_161 ?_
      exact g_iret dX7_soap_18 rfl (Nat.le_refl _) (Nat.le_refl _) (⟨rfl, rfl⟩)
set_option maxRecDepth 20000 in
theorem lp_msoap (sk : Nat → Nat) {h mt mo md ms mn mi mz mk mw mf mr mb mu : Nat} {ty li se fAt at_ so sta sz fl ru : Int32} {iha isn : Bool} {T : Nat → Nat} {s : PSt} {i e v : Nat} (hT : T 0 ≤ 30) (hs0 : SB s.1) (hi : i ≤ e) (he : e < T 0) (hv : 1 ≤ v ∧ v ≤ 99) : ∀ (n p : Nat), p + n = e + 1 → i ≤ p → GG sk RX7 yX7_soap cX7_soap 5 (some .int) 2 0 0 (zD (some (.int (nI (sumR (adS i (e + 1) v s.1) (e + 1 - i) i)))) [oMod h mt ty mo md ms mn mi mz mk mw mf li se fAt at_ so sta sz fl iha isn ru mr mb mu, cI mo 56 (fI T), cI ms 32 (fS (adS i (e + 1) v s.1, s.2))]) 0 0 40 [some (.ref h), some (.int (nI i)), some (.int (nI e)), some (.int (nI v)), some (.int (nI p))] [] [oMod h mt ty mo md ms mn mi mz mk mw mf li se fAt at_ so sta sz fl iha isn ru mr mb mu, cI mo 56 (fI T), cI ms 32 (fS (adS i p v s.1, s.2))] := by
  intro n
  induction n with
  | zero =>
    intro p hp hip
    have q : p = e + 1 := by omega
    subst q
    have hsA := adS_le i (e + 1) v s.1 hs0
    refine g_iload dX7_soap_40 rfl rfl ?_
    refine g_iload_n dX7_soap_42 rfl rfl ?_
    refine g_icmp_gtN (t := 87) dX7_soap_43 (by decide) rfl (by omega) (by omega) (fun h43 => ?_) (fun h43 => ?_)
    · skip
      refine g_aload_n dX7_soap_87 rfl rfl ?_
      refine g_iload_n dX7_soap_88 rfl rfl ?_
      refine g_iload_n dX7_soap_89 rfl rfl ?_
      refine g_callV (c_X7_together sk (i := i) (e := e) (s := (adS i (e + 1) v s.1, s.2)) (by omega) hsA (by omega)) m_X7_154 a_X7_together dX7_soap_90 rfl [0, 2] rfl rfl 0 rfl rfl rfl (by decide) (by decide) (by decide) (by decide) (Nat.le_of_ble_eq_true rfl) (fun r w hK => ?_)
      obtain ⟨rfl, rfl⟩ := hK
      refine ⟨rfl, ?_⟩
      dsimp only [puts, List.set, Option.toList, List.cons_append, List.nil_append, List.append_nil]
      exact g_iret dX7_soap_93 rfl (Nat.le_refl _) (Nat.le_refl _) (⟨rfl, rfl⟩)
    · exact absurd h43 (by omega)
  | succ n ih =>
    intro p hp hip
    have hsp := hs0 p (by omega)
    refine g_iload dX7_soap_40 rfl rfl ?_
    refine g_iload_n dX7_soap_42 rfl rfl ?_
    refine g_icmp_gtN (t := 87) dX7_soap_43 (by decide) rfl (by omega) (by omega) (fun h43 => ?_) (fun h43 => ?_)
    · exact absurd h43 (by omega)
    · skip
      refine g_aload_n dX7_soap_46 rfl rfl ?_
      refine g_get f_X7_19 dX7_soap_47 rfl 0 rfl rfl ?_
      refine g_iload dX7_soap_50 rfl rfl ?_
      refine g_aload_n dX7_soap_52 rfl rfl ?_
      refine g_get f_X7_19 dX7_soap_53 rfl 0 rfl rfl ?_
      refine g_iload dX7_soap_56 rfl rfl ?_
      refine g_ialdN (v := nI (s.1 p)) dX7_soap_58 rfl 2 rfl (by omega) (by decide) ((fS_lt (adS i p v s.1, s.2) (show p < 30 by omega)).trans (congrArg nI (adS_at i p v s.1))) ?_
      refine g_iload_n dX7_soap_59 rfl rfl ?_
      refine g_iadd dX7_soap_60 rfl (nI_add _ _) ?_
      refine g_bipush (v := nI 99) dX7_soap_61 rfl (by decide) ?_
      refine g_icmp_leN (t := 71) dX7_soap_63 (by decide) rfl (by omega) (by omega) (fun h63 => ?_) (fun h63 => ?_)
      · skip
        refine g_aload_n dX7_soap_71 rfl rfl ?_
        refine g_get f_X7_19 dX7_soap_72 rfl 0 rfl rfl ?_
        refine g_iload dX7_soap_75 rfl rfl ?_
        refine g_ialdN (v := nI (s.1 p)) dX7_soap_77 rfl 2 rfl (by omega) (by decide) ((fS_lt (adS i p v s.1, s.2) (show p < 30 by omega)).trans (congrArg nI (adS_at i p v s.1))) ?_
        refine g_iload_n dX7_soap_78 rfl rfl ?_
        refine g_iadd dX7_soap_79 rfl (nI_add _ _) ?_
        refine g_iastN dX7_soap_80 rfl 2 rfl (by omega) (by decide) (fS_ad s.2 (show p < 30 by omega) hip (by omega)) rfl ?_
        refine g_iinc dX7_soap_81 rfl rfl (nI_1 _) (by decide) rfl rfl ?_
        refine g_goto (q := 40) dX7_soap_84 (by decide) ?_
        exact ih (p + 1) (by omega) (by omega)
      · skip
        refine g_bipush (v := nI 99) dX7_soap_66 rfl (by decide) ?_
        refine g_goto (q := 80) dX7_soap_68 (by decide) ?_
        refine g_iastN dX7_soap_80 rfl 2 rfl (by omega) (by decide) (fS_ad s.2 (show p < 30 by omega) hip (by omega)) rfl ?_
        refine g_iinc dX7_soap_81 rfl rfl (nI_1 _) (by decide) rfl rfl ?_
        refine g_goto (q := 40) dX7_soap_84 (by decide) ?_
        exact ih (p + 1) (by omega) (by omega)
set_option maxRecDepth 20000 in
theorem c_X7_soap (sk : Nat → Nat) {h mt mo md ms mn mi mz mk mw mf mr mb mu : Nat} {ty li se fAt at_ so sta sz fl ru : Int32} {iha isn : Bool} {T : Nat → Nat} {s : PSt} {i e v : Nat} (hT : T 0 ≤ 30) (hs0 : SB s.1) (hi : i ≤ e) (he : e < T 0) (hv : 1 ≤ v ∧ v ≤ 99) : Ct sk yX7_soap cX7_soap 5 (some .int) 2 0 0 [oMod h mt ty mo md ms mn mi mz mk mw mf li se fAt at_ so sta sz fl iha isn ru mr mb mu, cI mo 56 (fI T), cI ms 32 (fS s)] [.ref h, .int (nI i), .int (nI e), .int (nI v)] (zD (some (.int (nI (sumR (adS i (e + 1) v s.1) (e + 1 - i) i)))) [oMod h mt ty mo md ms mn mi mz mk mw mf li se fAt at_ so sta sz fl iha isn ru mr mb mu, cI mo 56 (fI T), cI ms 32 (fS (adS i (e + 1) v s.1, s.2))]) := by
  refine Ct.of (own := RX7) (l := [some (.ref h), some (.int (nI i)), some (.int (nI e)), some (.int (nI v)), none]) (by decide) rfl (Nat.le_of_ble_eq_true rfl) rfl ?_
  refine g_aload_n dX7_soap_0 rfl rfl ?_
  refine g_iload_n dX7_soap_1 rfl rfl ?_
  refine g_callV (c_X7_isFoot sk hT) m_X7_158 a_X7_isFoot dX7_soap_2 rfl [0, 1] rfl rfl 0 rfl rfl rfl (by decide) (by decide) (by decide) (by decide) (Nat.le_of_ble_eq_true rfl) (fun r w hK => ?_)
  obtain ⟨rfl, rfl⟩ := hK
  refine ⟨rfl, ?_⟩
  dsimp only [puts, List.set, Option.toList, List.cons_append, List.nil_append, List.append_nil]
  refine g_if_eqB (t := 16) dX7_soap_5 (by decide) rfl (fun h5 => ?_) (fun h5 => ?_)
  · exact absurd h5 (by rw [inR_N (by omega) (by omega)]; decide)
  · skip
    refine g_aload_n dX7_soap_8 rfl rfl ?_
    refine g_iload_n dX7_soap_9 rfl rfl ?_
    refine g_callV (c_X7_isFoot sk hT) m_X7_158 a_X7_isFoot dX7_soap_10 rfl [0, 1] rfl rfl 0 rfl rfl rfl (by decide) (by decide) (by decide) (by decide) (Nat.le_of_ble_eq_true rfl) (fun r w hK => ?_)
    obtain ⟨rfl, rfl⟩ := hK
    refine ⟨rfl, ?_⟩
    dsimp only [puts, List.set, Option.toList, List.cons_append, List.nil_append, List.append_nil]
    refine g_if_neB (t := 19) dX7_soap_13 (by decide) rfl (fun h13 => ?_) (fun h13 => ?_)
    · skip
      refine g_iload_n dX7_soap_19 rfl rfl ?_
      refine g_iload_n dX7_soap_20 rfl rfl ?_
      refine g_icmp_ltN (t := 34) dX7_soap_21 (by decide) rfl (by omega) (by omega) (fun h21 => ?_) (fun h21 => ?_)
      · exact absurd h21 (by omega)
      · skip
        refine g_iload_n dX7_soap_24 rfl rfl ?_
        refine g_iconst (v := nI 1) dX7_soap_25 rfl (by decide) ?_
        refine g_bipush (v := nI 99) dX7_soap_26 rfl (by decide) ?_
        refine g_callS (c_X7_in sk) m_X7_61 a_X7_in dX7_soap_28 rfl [] rfl rfl rfl rfl (by decide) (by decide) (by decide) (by decide) (Nat.le_of_ble_eq_true rfl) (fun r w hK => ?_)
        obtain ⟨rfl, rfl⟩ := hK
        refine ⟨rfl, ?_⟩
        dsimp only [puts, List.set, Option.toList, List.cons_append, List.nil_append, List.append_nil]
        refine g_if_neB (t := 37) dX7_soap_31 (by decide) rfl (fun h31 => ?_) (fun h31 => ?_)
        · skip
          refine g_iload_n dX7_soap_37 rfl rfl ?_
          refine g_istore dX7_soap_38 rfl (by decide) rfl rfl ?_
          have h0 := lp_msoap sk (h := h) (mt := mt) (mo := mo) (md := md) (ms := ms) (mn := mn) (mi := mi) (mz := mz) (mk := mk) (mw := mw) (mf := mf) (mr := mr) (mb := mb) (mu := mu) (ty := ty) (li := li) (se := se) (fAt := fAt) (at_ := at_) (so := so) (sta := sta) (sz := sz) (fl := fl) (ru := ru) (iha := iha) (isn := isn) (T := T) (s := s) (i := i) (e := e) (v := v) hT hs0 hi he hv (e + 1 - i) i (by omega) (Nat.le_refl _)
          rw [adS_0] at h0
          exact h0
        · exact absurd h31 (by rw [inI_N hv.1 hv.2 (by decide)]; decide)
    · exact absurd h13 (by rw [inR_N he (by omega)]; decide)
set_option maxRecDepth 20000 in
theorem c_X7_toldN (sk : Nat → Nat) {h mt mo md ms mn mi mz mk mw mf mr mb mu : Nat} {ty li se fAt at_ so sta sz fl ru : Int32} {iha isn : Bool} {T : Nat → Nat} {s : PSt} {x : Int32} (hx : x.toInt < 0 ∨ 10 < x.toInt) : Ct sk yX7_told cX7_told 2 (some .int) 2 0 0 [oMod h mt ty mo md ms mn mi mz mk mw mf li se fAt at_ so sta sz fl iha isn ru mr mb mu, cI mo 56 (fI T), cI ms 32 (fS s)] [.ref h, .int x] (zD (some (.int (-1000000002))) [oMod h mt ty mo md ms mn mi mz mk mw mf li se fAt at_ so sta sz fl iha isn ru mr mb mu, cI mo 56 (fI T), cI ms 32 (fS s)]) := by
  refine Ct.of (own := RX7) (l := [some (.ref h), some (.int x)]) (by decide) rfl (Nat.le_of_ble_eq_true rfl) rfl ?_
  refine g_iload_n dX7_told_0 rfl rfl ?_
  refine g_iconst (v := nI 0) dX7_told_1 rfl (by decide) ?_
  refine g_bipush (v := nI 10) dX7_told_2 rfl (by decide) ?_
  refine g_callS (c_X7_in sk) m_X7_61 a_X7_in dX7_told_4 rfl [] rfl rfl rfl rfl (by decide) (by decide) (by decide) (by decide) (Nat.le_of_ble_eq_true rfl) (fun r w hK => ?_)
  obtain ⟨rfl, rfl⟩ := hK
  refine ⟨rfl, ?_⟩
  dsimp only [puts, List.set, Option.toList, List.cons_append, List.nil_append, List.append_nil]
  refine g_if_neB (t := 13) dX7_told_7 (by decide) rfl (fun h7 => ?_) (fun h7 => ?_)
  · exact absurd (inI_t h7) (not_not_intro (by rw [Int32.lt_iff_toInt_lt, Int32.lt_iff_toInt_lt, nI_toInt (by omega), nI_toInt (by omega)]; omega))
  · skip
    refine g_ldc dX7_told_10 rfl k_X7_65 ?_
    exact g_iret dX7_told_12 rfl (Nat.le_refl _) (Nat.le_refl _) (⟨rfl, rfl⟩)
set_option maxRecDepth 20000 in
theorem c_X7_told0 (sk : Nat → Nat) {h mt mo md ms mn mi mz mk mw mf mr mb mu : Nat} {ty li se fAt at_ so sta sz fl ru : Int32} {iha isn : Bool} {T : Nat → Nat} {s : PSt} (hT : T 0 ≤ 30) (hs0 : SB s.1) : Ct sk yX7_told cX7_told 2 (some .int) 2 0 0 [oMod h mt ty mo md ms mn mi mz mk mw mf li se fAt at_ so sta sz fl iha isn ru mr mb mu, cI mo 56 (fI T), cI ms 32 (fS s)] [.ref h, .int (nI 0)] (zD (some (.int (nI (T 0)))) [oMod h mt ty mo md ms mn mi mz mk mw mf li se fAt at_ so sta sz fl iha isn ru mr mb mu, cI mo 56 (fI T), cI ms 32 (fS s)]) := by
  refine Ct.of (own := RX7) (l := [some (.ref h), some (.int (nI 0))]) (by decide) rfl (Nat.le_of_ble_eq_true rfl) rfl ?_
  refine g_iload_n dX7_told_0 rfl rfl ?_
  refine g_iconst (v := nI 0) dX7_told_1 rfl (by decide) ?_
  refine g_bipush (v := nI 10) dX7_told_2 rfl (by decide) ?_
  refine g_callS (c_X7_in sk) m_X7_61 a_X7_in dX7_told_4 rfl [] rfl rfl rfl rfl (by decide) (by decide) (by decide) (by decide) (Nat.le_of_ble_eq_true rfl) (fun r w hK => ?_)
  obtain ⟨rfl, rfl⟩ := hK
  refine ⟨rfl, ?_⟩
  dsimp only [puts, List.set, Option.toList, List.cons_append, List.nil_append, List.append_nil]
  refine g_if_neB (t := 13) dX7_told_7 (by decide) rfl (fun h7 => ?_) (fun h7 => ?_)
  · skip
    refine g_iload_n dX7_told_13 rfl rfl ?_
    refine g_bipush (v := nI 6) dX7_told_14 rfl (by decide) ?_
    refine g_icmp_geN (t := 26) dX7_told_16 (by decide) rfl (by omega) (by omega) (fun h16 => ?_) (fun h16 => ?_)
    · exact absurd h16 (by omega)
    · skip
      refine g_aload_n dX7_told_19 rfl rfl ?_
      refine g_get f_X7_13 dX7_told_20 rfl 0 rfl rfl ?_
      refine g_iload_n dX7_told_23 rfl rfl ?_
      refine g_ialdN (v := nI _) dX7_told_24 rfl 1 rfl (by omega) (by decide) (rfl) ?_
      exact g_iret dX7_told_25 rfl (Nat.le_refl _) (Nat.le_refl _) (⟨rfl, rfl⟩)
  · exact absurd (inI_f h7) (by decide +kernel)
set_option maxRecDepth 20000 in
theorem c_X7_told1 (sk : Nat → Nat) {h mt mo md ms mn mi mz mk mw mf mr mb mu : Nat} {ty li se fAt at_ so sta sz fl ru : Int32} {iha isn : Bool} {T : Nat → Nat} {s : PSt} (hT : T 0 ≤ 30) (hs0 : SB s.1) : Ct sk yX7_told cX7_told 2 (some .int) 2 0 0 [oMod h mt ty mo md ms mn mi mz mk mw mf li se fAt at_ so sta sz fl iha isn ru mr mb mu, cI mo 56 (fI T), cI ms 32 (fS s)] [.ref h, .int (nI 1)] (zD (some (.int (nI (T 1)))) [oMod h mt ty mo md ms mn mi mz mk mw mf li se fAt at_ so sta sz fl iha isn ru mr mb mu, cI mo 56 (fI T), cI ms 32 (fS s)]) := by
  refine Ct.of (own := RX7) (l := [some (.ref h), some (.int (nI 1))]) (by decide) rfl (Nat.le_of_ble_eq_true rfl) rfl ?_
  refine g_iload_n dX7_told_0 rfl rfl ?_
  refine g_iconst (v := nI 0) dX7_told_1 rfl (by decide) ?_
  refine g_bipush (v := nI 10) dX7_told_2 rfl (by decide) ?_
  refine g_callS (c_X7_in sk) m_X7_61 a_X7_in dX7_told_4 rfl [] rfl rfl rfl rfl (by decide) (by decide) (by decide) (by decide) (Nat.le_of_ble_eq_true rfl) (fun r w hK => ?_)
  obtain ⟨rfl, rfl⟩ := hK
  refine ⟨rfl, ?_⟩
  dsimp only [puts, List.set, Option.toList, List.cons_append, List.nil_append, List.append_nil]
  refine g_if_neB (t := 13) dX7_told_7 (by decide) rfl (fun h7 => ?_) (fun h7 => ?_)
  · skip
    refine g_iload_n dX7_told_13 rfl rfl ?_
    refine g_bipush (v := nI 6) dX7_told_14 rfl (by decide) ?_
    refine g_icmp_geN (t := 26) dX7_told_16 (by decide) rfl (by omega) (by omega) (fun h16 => ?_) (fun h16 => ?_)
    · exact absurd h16 (by omega)
    · skip
      refine g_aload_n dX7_told_19 rfl rfl ?_
      refine g_get f_X7_13 dX7_told_20 rfl 0 rfl rfl ?_
      refine g_iload_n dX7_told_23 rfl rfl ?_
      refine g_ialdN (v := nI _) dX7_told_24 rfl 1 rfl (by omega) (by decide) (rfl) ?_
      exact g_iret dX7_told_25 rfl (Nat.le_refl _) (Nat.le_refl _) (⟨rfl, rfl⟩)
  · exact absurd (inI_f h7) (by decide +kernel)
set_option maxRecDepth 20000 in
theorem c_X7_told2 (sk : Nat → Nat) {h mt mo md ms mn mi mz mk mw mf mr mb mu : Nat} {ty li se fAt at_ so sta sz fl ru : Int32} {iha isn : Bool} {T : Nat → Nat} {s : PSt} (hT : T 0 ≤ 30) (hs0 : SB s.1) : Ct sk yX7_told cX7_told 2 (some .int) 2 0 0 [oMod h mt ty mo md ms mn mi mz mk mw mf li se fAt at_ so sta sz fl iha isn ru mr mb mu, cI mo 56 (fI T), cI ms 32 (fS s)] [.ref h, .int (nI 2)] (zD (some (.int (nI (T 2)))) [oMod h mt ty mo md ms mn mi mz mk mw mf li se fAt at_ so sta sz fl iha isn ru mr mb mu, cI mo 56 (fI T), cI ms 32 (fS s)]) := by
  refine Ct.of (own := RX7) (l := [some (.ref h), some (.int (nI 2))]) (by decide) rfl (Nat.le_of_ble_eq_true rfl) rfl ?_
  refine g_iload_n dX7_told_0 rfl rfl ?_
  refine g_iconst (v := nI 0) dX7_told_1 rfl (by decide) ?_
  refine g_bipush (v := nI 10) dX7_told_2 rfl (by decide) ?_
  refine g_callS (c_X7_in sk) m_X7_61 a_X7_in dX7_told_4 rfl [] rfl rfl rfl rfl (by decide) (by decide) (by decide) (by decide) (Nat.le_of_ble_eq_true rfl) (fun r w hK => ?_)
  obtain ⟨rfl, rfl⟩ := hK
  refine ⟨rfl, ?_⟩
  dsimp only [puts, List.set, Option.toList, List.cons_append, List.nil_append, List.append_nil]
  refine g_if_neB (t := 13) dX7_told_7 (by decide) rfl (fun h7 => ?_) (fun h7 => ?_)
  · skip
    refine g_iload_n dX7_told_13 rfl rfl ?_
    refine g_bipush (v := nI 6) dX7_told_14 rfl (by decide) ?_
    refine g_icmp_geN (t := 26) dX7_told_16 (by decide) rfl (by omega) (by omega) (fun h16 => ?_) (fun h16 => ?_)
    · exact absurd h16 (by omega)
    · skip
      refine g_aload_n dX7_told_19 rfl rfl ?_
      refine g_get f_X7_13 dX7_told_20 rfl 0 rfl rfl ?_
      refine g_iload_n dX7_told_23 rfl rfl ?_
      refine g_ialdN (v := nI _) dX7_told_24 rfl 1 rfl (by omega) (by decide) (rfl) ?_
      exact g_iret dX7_told_25 rfl (Nat.le_refl _) (Nat.le_refl _) (⟨rfl, rfl⟩)
  · exact absurd (inI_f h7) (by decide +kernel)
set_option maxRecDepth 20000 in
theorem c_X7_told3 (sk : Nat → Nat) {h mt mo md ms mn mi mz mk mw mf mr mb mu : Nat} {ty li se fAt at_ so sta sz fl ru : Int32} {iha isn : Bool} {T : Nat → Nat} {s : PSt} (hT : T 0 ≤ 30) (hs0 : SB s.1) : Ct sk yX7_told cX7_told 2 (some .int) 2 0 0 [oMod h mt ty mo md ms mn mi mz mk mw mf li se fAt at_ so sta sz fl iha isn ru mr mb mu, cI mo 56 (fI T), cI ms 32 (fS s)] [.ref h, .int (nI 3)] (zD (some (.int (nI (T 3)))) [oMod h mt ty mo md ms mn mi mz mk mw mf li se fAt at_ so sta sz fl iha isn ru mr mb mu, cI mo 56 (fI T), cI ms 32 (fS s)]) := by
  refine Ct.of (own := RX7) (l := [some (.ref h), some (.int (nI 3))]) (by decide) rfl (Nat.le_of_ble_eq_true rfl) rfl ?_
  refine g_iload_n dX7_told_0 rfl rfl ?_
  refine g_iconst (v := nI 0) dX7_told_1 rfl (by decide) ?_
  refine g_bipush (v := nI 10) dX7_told_2 rfl (by decide) ?_
  refine g_callS (c_X7_in sk) m_X7_61 a_X7_in dX7_told_4 rfl [] rfl rfl rfl rfl (by decide) (by decide) (by decide) (by decide) (Nat.le_of_ble_eq_true rfl) (fun r w hK => ?_)
  obtain ⟨rfl, rfl⟩ := hK
  refine ⟨rfl, ?_⟩
  dsimp only [puts, List.set, Option.toList, List.cons_append, List.nil_append, List.append_nil]
  refine g_if_neB (t := 13) dX7_told_7 (by decide) rfl (fun h7 => ?_) (fun h7 => ?_)
  · skip
    refine g_iload_n dX7_told_13 rfl rfl ?_
    refine g_bipush (v := nI 6) dX7_told_14 rfl (by decide) ?_
    refine g_icmp_geN (t := 26) dX7_told_16 (by decide) rfl (by omega) (by omega) (fun h16 => ?_) (fun h16 => ?_)
    · exact absurd h16 (by omega)
    · skip
      refine g_aload_n dX7_told_19 rfl rfl ?_
      refine g_get f_X7_13 dX7_told_20 rfl 0 rfl rfl ?_
      refine g_iload_n dX7_told_23 rfl rfl ?_
      refine g_ialdN (v := nI _) dX7_told_24 rfl 1 rfl (by omega) (by decide) (rfl) ?_
      exact g_iret dX7_told_25 rfl (Nat.le_refl _) (Nat.le_refl _) (⟨rfl, rfl⟩)
  · exact absurd (inI_f h7) (by decide +kernel)
set_option maxRecDepth 20000 in
theorem c_X7_told4 (sk : Nat → Nat) {h mt mo md ms mn mi mz mk mw mf mr mb mu : Nat} {ty li se fAt at_ so sta sz fl ru : Int32} {iha isn : Bool} {T : Nat → Nat} {s : PSt} (hT : T 0 ≤ 30) (hs0 : SB s.1) : Ct sk yX7_told cX7_told 2 (some .int) 2 0 0 [oMod h mt ty mo md ms mn mi mz mk mw mf li se fAt at_ so sta sz fl iha isn ru mr mb mu, cI mo 56 (fI T), cI ms 32 (fS s)] [.ref h, .int (nI 4)] (zD (some (.int (nI (T 4)))) [oMod h mt ty mo md ms mn mi mz mk mw mf li se fAt at_ so sta sz fl iha isn ru mr mb mu, cI mo 56 (fI T), cI ms 32 (fS s)]) := by
  refine Ct.of (own := RX7) (l := [some (.ref h), some (.int (nI 4))]) (by decide) rfl (Nat.le_of_ble_eq_true rfl) rfl ?_
  refine g_iload_n dX7_told_0 rfl rfl ?_
  refine g_iconst (v := nI 0) dX7_told_1 rfl (by decide) ?_
  refine g_bipush (v := nI 10) dX7_told_2 rfl (by decide) ?_
  refine g_callS (c_X7_in sk) m_X7_61 a_X7_in dX7_told_4 rfl [] rfl rfl rfl rfl (by decide) (by decide) (by decide) (by decide) (Nat.le_of_ble_eq_true rfl) (fun r w hK => ?_)
  obtain ⟨rfl, rfl⟩ := hK
  refine ⟨rfl, ?_⟩
  dsimp only [puts, List.set, Option.toList, List.cons_append, List.nil_append, List.append_nil]
  refine g_if_neB (t := 13) dX7_told_7 (by decide) rfl (fun h7 => ?_) (fun h7 => ?_)
  · skip
    refine g_iload_n dX7_told_13 rfl rfl ?_
    refine g_bipush (v := nI 6) dX7_told_14 rfl (by decide) ?_
    refine g_icmp_geN (t := 26) dX7_told_16 (by decide) rfl (by omega) (by omega) (fun h16 => ?_) (fun h16 => ?_)
    · exact absurd h16 (by omega)
    · skip
      refine g_aload_n dX7_told_19 rfl rfl ?_
      refine g_get f_X7_13 dX7_told_20 rfl 0 rfl rfl ?_
      refine g_iload_n dX7_told_23 rfl rfl ?_
      refine g_ialdN (v := nI _) dX7_told_24 rfl 1 rfl (by omega) (by decide) (rfl) ?_
      exact g_iret dX7_told_25 rfl (Nat.le_refl _) (Nat.le_refl _) (⟨rfl, rfl⟩)
  · exact absurd (inI_f h7) (by decide +kernel)
set_option maxRecDepth 20000 in
theorem c_X7_told5 (sk : Nat → Nat) {h mt mo md ms mn mi mz mk mw mf mr mb mu : Nat} {ty li se fAt at_ so sta sz fl ru : Int32} {iha isn : Bool} {T : Nat → Nat} {s : PSt} (hT : T 0 ≤ 30) (hs0 : SB s.1) : Ct sk yX7_told cX7_told 2 (some .int) 2 0 0 [oMod h mt ty mo md ms mn mi mz mk mw mf li se fAt at_ so sta sz fl iha isn ru mr mb mu, cI mo 56 (fI T), cI ms 32 (fS s)] [.ref h, .int (nI 5)] (zD (some (.int (nI (T 5)))) [oMod h mt ty mo md ms mn mi mz mk mw mf li se fAt at_ so sta sz fl iha isn ru mr mb mu, cI mo 56 (fI T), cI ms 32 (fS s)]) := by
  refine Ct.of (own := RX7) (l := [some (.ref h), some (.int (nI 5))]) (by decide) rfl (Nat.le_of_ble_eq_true rfl) rfl ?_
  refine g_iload_n dX7_told_0 rfl rfl ?_
  refine g_iconst (v := nI 0) dX7_told_1 rfl (by decide) ?_
  refine g_bipush (v := nI 10) dX7_told_2 rfl (by decide) ?_
  refine g_callS (c_X7_in sk) m_X7_61 a_X7_in dX7_told_4 rfl [] rfl rfl rfl rfl (by decide) (by decide) (by decide) (by decide) (Nat.le_of_ble_eq_true rfl) (fun r w hK => ?_)
  obtain ⟨rfl, rfl⟩ := hK
  refine ⟨rfl, ?_⟩
  dsimp only [puts, List.set, Option.toList, List.cons_append, List.nil_append, List.append_nil]
  refine g_if_neB (t := 13) dX7_told_7 (by decide) rfl (fun h7 => ?_) (fun h7 => ?_)
  · skip
    refine g_iload_n dX7_told_13 rfl rfl ?_
    refine g_bipush (v := nI 6) dX7_told_14 rfl (by decide) ?_
    refine g_icmp_geN (t := 26) dX7_told_16 (by decide) rfl (by omega) (by omega) (fun h16 => ?_) (fun h16 => ?_)
    · exact absurd h16 (by omega)
    · skip
      refine g_aload_n dX7_told_19 rfl rfl ?_
      refine g_get f_X7_13 dX7_told_20 rfl 0 rfl rfl ?_
      refine g_iload_n dX7_told_23 rfl rfl ?_
      refine g_ialdN (v := nI _) dX7_told_24 rfl 1 rfl (by omega) (by decide) (rfl) ?_
      exact g_iret dX7_told_25 rfl (Nat.le_refl _) (Nat.le_refl _) (⟨rfl, rfl⟩)
  · exact absurd (inI_f h7) (by decide +kernel)
set_option maxRecDepth 20000 in
theorem c_X7_told6 (sk : Nat → Nat) {h mt mo md ms mn mi mz mk mw mf mr mb mu : Nat} {ty li se fAt at_ so sta sz fl ru : Int32} {iha isn : Bool} {T : Nat → Nat} {s : PSt} (hT : T 0 ≤ 30) (hs0 : SB s.1) : Ct sk yX7_told cX7_told 2 (some .int) 2 0 0 [oMod h mt ty mo md ms mn mi mz mk mw mf li se fAt at_ so sta sz fl iha isn ru mr mb mu, cI mo 56 (fI T), cI ms 32 (fS s)] [.ref h, .int (nI 6)] (zD (some (.int (ty))) [oMod h mt ty mo md ms mn mi mz mk mw mf li se fAt at_ so sta sz fl iha isn ru mr mb mu, cI mo 56 (fI T), cI ms 32 (fS s)]) := by
  refine Ct.of (own := RX7) (l := [some (.ref h), some (.int (nI 6))]) (by decide) rfl (Nat.le_of_ble_eq_true rfl) rfl ?_
  refine g_iload_n dX7_told_0 rfl rfl ?_
  refine g_iconst (v := nI 0) dX7_told_1 rfl (by decide) ?_
  refine g_bipush (v := nI 10) dX7_told_2 rfl (by decide) ?_
  refine g_callS (c_X7_in sk) m_X7_61 a_X7_in dX7_told_4 rfl [] rfl rfl rfl rfl (by decide) (by decide) (by decide) (by decide) (Nat.le_of_ble_eq_true rfl) (fun r w hK => ?_)
  obtain ⟨rfl, rfl⟩ := hK
  refine ⟨rfl, ?_⟩
  dsimp only [puts, List.set, Option.toList, List.cons_append, List.nil_append, List.append_nil]
  refine g_if_neB (t := 13) dX7_told_7 (by decide) rfl (fun h7 => ?_) (fun h7 => ?_)
  · skip
    refine g_iload_n dX7_told_13 rfl rfl ?_
    refine g_bipush (v := nI 6) dX7_told_14 rfl (by decide) ?_
    refine g_icmp_geN (t := 26) dX7_told_16 (by decide) rfl (by omega) (by omega) (fun h16 => ?_) (fun h16 => ?_)
    · skip
      refine g_iload_n dX7_told_26 rfl rfl ?_
      refine g_bipush (v := nI 6) dX7_told_27 rfl (by decide) ?_
      refine g_icmp_neN (t := 39) dX7_told_29 (by decide) rfl (by omega) (by omega) (fun h29 => ?_) (fun h29 => ?_)
      · exact absurd rfl h29
      · skip
        refine g_aload_n dX7_told_32 rfl rfl ?_
        refine g_get f_X7_66 dX7_told_33 rfl 0 rfl rfl ?_
        refine g_goto (q := 97) dX7_told_36 (by decide) ?_
        exact g_iret dX7_told_97 rfl (Nat.le_refl _) (Nat.le_refl _) (⟨rfl, rfl⟩)
    · exact absurd h16 (by omega)
  · exact absurd (inI_f h7) (by decide +kernel)
set_option maxRecDepth 20000 in
theorem c_X7_told7 (sk : Nat → Nat) {h mt mo md ms mn mi mz mk mw mf mr mb mu : Nat} {ty li se fAt at_ so sta sz fl ru : Int32} {iha isn : Bool} {T : Nat → Nat} {s : PSt} (hT : T 0 ≤ 30) (hs0 : SB s.1) : Ct sk yX7_told cX7_told 2 (some .int) 2 0 0 [oMod h mt ty mo md ms mn mi mz mk mw mf li se fAt at_ so sta sz fl iha isn ru mr mb mu, cI mo 56 (fI T), cI ms 32 (fS s)] [.ref h, .int (nI 7)] (zD (some (.int (s.2.1))) [oMod h mt ty mo md ms mn mi mz mk mw mf li se fAt at_ so sta sz fl iha isn ru mr mb mu, cI mo 56 (fI T), cI ms 32 (fS s)]) := by
  refine Ct.of (own := RX7) (l := [some (.ref h), some (.int (nI 7))]) (by decide) rfl (Nat.le_of_ble_eq_true rfl) rfl ?_
  refine g_iload_n dX7_told_0 rfl rfl ?_
  refine g_iconst (v := nI 0) dX7_told_1 rfl (by decide) ?_
  refine g_bipush (v := nI 10) dX7_told_2 rfl (by decide) ?_
  refine g_callS (c_X7_in sk) m_X7_61 a_X7_in dX7_told_4 rfl [] rfl rfl rfl rfl (by decide) (by decide) (by decide) (by decide) (Nat.le_of_ble_eq_true rfl) (fun r w hK => ?_)
  obtain ⟨rfl, rfl⟩ := hK
  refine ⟨rfl, ?_⟩
  dsimp only [puts, List.set, Option.toList, List.cons_append, List.nil_append, List.append_nil]
  refine g_if_neB (t := 13) dX7_told_7 (by decide) rfl (fun h7 => ?_) (fun h7 => ?_)
  · skip
    refine g_iload_n dX7_told_13 rfl rfl ?_
    refine g_bipush (v := nI 6) dX7_told_14 rfl (by decide) ?_
    refine g_icmp_geN (t := 26) dX7_told_16 (by decide) rfl (by omega) (by omega) (fun h16 => ?_) (fun h16 => ?_)
    · skip
      refine g_iload_n dX7_told_26 rfl rfl ?_
      refine g_bipush (v := nI 6) dX7_told_27 rfl (by decide) ?_
      refine g_icmp_neN (t := 39) dX7_told_29 (by decide) rfl (by omega) (by omega) (fun h29 => ?_) (fun h29 => ?_)
      · skip
        refine g_iload_n dX7_told_39 rfl rfl ?_
        refine g_bipush (v := nI 7) dX7_told_40 rfl (by decide) ?_
        refine g_icmp_neN (t := 55) dX7_told_42 (by decide) rfl (by omega) (by omega) (fun h42 => ?_) (fun h42 => ?_)
        · exact absurd rfl h42
        · skip
          refine g_aload_n dX7_told_45 rfl rfl ?_
          refine g_get f_X7_19 dX7_told_46 rfl 0 rfl rfl ?_
          refine g_bipush (v := nI 30) dX7_told_49 rfl (by decide) ?_
          refine g_ialdN (v := s.2.1) dX7_told_51 rfl 2 rfl (by omega) (by decide) (rfl) ?_
          refine g_goto (q := 97) dX7_told_52 (by decide) ?_
          exact g_iret dX7_told_97 rfl (Nat.le_refl _) (Nat.le_refl _) (⟨rfl, rfl⟩)
      · exact absurd h29 (by omega)
    · exact absurd h16 (by omega)
  · exact absurd (inI_f h7) (by decide +kernel)
set_option maxRecDepth 20000 in
theorem c_X7_told8 (sk : Nat → Nat) {h mt mo md ms mn mi mz mk mw mf mr mb mu : Nat} {ty li se fAt at_ so sta sz fl ru : Int32} {iha isn : Bool} {T : Nat → Nat} {s : PSt} (hT : T 0 ≤ 30) (hs0 : SB s.1) : Ct sk yX7_told cX7_told 2 (some .int) 2 0 0 [oMod h mt ty mo md ms mn mi mz mk mw mf li se fAt at_ so sta sz fl iha isn ru mr mb mu, cI mo 56 (fI T), cI ms 32 (fS s)] [.ref h, .int (nI 8)] (zD (some (.int (s.2.2))) [oMod h mt ty mo md ms mn mi mz mk mw mf li se fAt at_ so sta sz fl iha isn ru mr mb mu, cI mo 56 (fI T), cI ms 32 (fS s)]) := by
  refine Ct.of (own := RX7) (l := [some (.ref h), some (.int (nI 8))]) (by decide) rfl (Nat.le_of_ble_eq_true rfl) rfl ?_
  refine g_iload_n dX7_told_0 rfl rfl ?_
  refine g_iconst (v := nI 0) dX7_told_1 rfl (by decide) ?_
  refine g_bipush (v := nI 10) dX7_told_2 rfl (by decide) ?_
  refine g_callS (c_X7_in sk) m_X7_61 a_X7_in dX7_told_4 rfl [] rfl rfl rfl rfl (by decide) (by decide) (by decide) (by decide) (Nat.le_of_ble_eq_true rfl) (fun r w hK => ?_)
  obtain ⟨rfl, rfl⟩ := hK
  refine ⟨rfl, ?_⟩
  dsimp only [puts, List.set, Option.toList, List.cons_append, List.nil_append, List.append_nil]
  refine g_if_neB (t := 13) dX7_told_7 (by decide) rfl (fun h7 => ?_) (fun h7 => ?_)
  · skip
    refine g_iload_n dX7_told_13 rfl rfl ?_
    refine g_bipush (v := nI 6) dX7_told_14 rfl (by decide) ?_
    refine g_icmp_geN (t := 26) dX7_told_16 (by decide) rfl (by omega) (by omega) (fun h16 => ?_) (fun h16 => ?_)
    · skip
      refine g_iload_n dX7_told_26 rfl rfl ?_
      refine g_bipush (v := nI 6) dX7_told_27 rfl (by decide) ?_
      refine g_icmp_neN (t := 39) dX7_told_29 (by decide) rfl (by omega) (by omega) (fun h29 => ?_) (fun h29 => ?_)
      · skip
        refine g_iload_n dX7_told_39 rfl rfl ?_
        refine g_bipush (v := nI 7) dX7_told_40 rfl (by decide) ?_
        refine g_icmp_neN (t := 55) dX7_told_42 (by decide) rfl (by omega) (by omega) (fun h42 => ?_) (fun h42 => ?_)
        · skip
          refine g_iload_n dX7_told_55 rfl rfl ?_
          refine g_bipush (v := nI 8) dX7_told_56 rfl (by decide) ?_
          refine g_icmp_neN (t := 71) dX7_told_58 (by decide) rfl (by omega) (by omega) (fun h58 => ?_) (fun h58 => ?_)
          · exact absurd rfl h58
          · skip
            refine g_aload_n dX7_told_61 rfl rfl ?_
            refine g_get f_X7_19 dX7_told_62 rfl 0 rfl rfl ?_
            refine g_bipush (v := nI 31) dX7_told_65 rfl (by decide) ?_
            refine g_ialdN (v := s.2.2) dX7_told_67 rfl 2 rfl (by omega) (by decide) (rfl) ?_
            refine g_goto (q := 97) dX7_told_68 (by decide) ?_
            exact g_iret dX7_told_97 rfl (Nat.le_refl _) (Nat.le_refl _) (⟨rfl, rfl⟩)
        · exact absurd h42 (by omega)
      · exact absurd h29 (by omega)
    · exact absurd h16 (by omega)
  · exact absurd (inI_f h7) (by decide +kernel)
set_option maxRecDepth 20000 in
theorem c_X7_told9 (sk : Nat → Nat) {h mt mo md ms mn mi mz mk mw mf mr mb mu : Nat} {ty li se fAt at_ so sta sz fl ru : Int32} {iha isn : Bool} {T : Nat → Nat} {s : PSt} (hT : T 0 ≤ 30) (hs0 : SB s.1) : Ct sk yX7_told cX7_told 2 (some .int) 2 0 0 [oMod h mt ty mo md ms mn mi mz mk mw mf li se fAt at_ so sta sz fl iha isn ru mr mb mu, cI mo 56 (fI T), cI ms 32 (fS s)] [.ref h, .int (nI 9)] (zD (some (.int (li))) [oMod h mt ty mo md ms mn mi mz mk mw mf li se fAt at_ so sta sz fl iha isn ru mr mb mu, cI mo 56 (fI T), cI ms 32 (fS s)]) := by
  refine Ct.of (own := RX7) (l := [some (.ref h), some (.int (nI 9))]) (by decide) rfl (Nat.le_of_ble_eq_true rfl) rfl ?_
  refine g_iload_n dX7_told_0 rfl rfl ?_
  refine g_iconst (v := nI 0) dX7_told_1 rfl (by decide) ?_
  refine g_bipush (v := nI 10) dX7_told_2 rfl (by decide) ?_
  refine g_callS (c_X7_in sk) m_X7_61 a_X7_in dX7_told_4 rfl [] rfl rfl rfl rfl (by decide) (by decide) (by decide) (by decide) (Nat.le_of_ble_eq_true rfl) (fun r w hK => ?_)
  obtain ⟨rfl, rfl⟩ := hK
  refine ⟨rfl, ?_⟩
  dsimp only [puts, List.set, Option.toList, List.cons_append, List.nil_append, List.append_nil]
  refine g_if_neB (t := 13) dX7_told_7 (by decide) rfl (fun h7 => ?_) (fun h7 => ?_)
  · skip
    refine g_iload_n dX7_told_13 rfl rfl ?_
    refine g_bipush (v := nI 6) dX7_told_14 rfl (by decide) ?_
    refine g_icmp_geN (t := 26) dX7_told_16 (by decide) rfl (by omega) (by omega) (fun h16 => ?_) (fun h16 => ?_)
    · skip
      refine g_iload_n dX7_told_26 rfl rfl ?_
      refine g_bipush (v := nI 6) dX7_told_27 rfl (by decide) ?_
      refine g_icmp_neN (t := 39) dX7_told_29 (by decide) rfl (by omega) (by omega) (fun h29 => ?_) (fun h29 => ?_)
      · skip
        refine g_iload_n dX7_told_39 rfl rfl ?_
        refine g_bipush (v := nI 7) dX7_told_40 rfl (by decide) ?_
        refine g_icmp_neN (t := 55) dX7_told_42 (by decide) rfl (by omega) (by omega) (fun h42 => ?_) (fun h42 => ?_)
        · skip
          refine g_iload_n dX7_told_55 rfl rfl ?_
          refine g_bipush (v := nI 8) dX7_told_56 rfl (by decide) ?_
          refine g_icmp_neN (t := 71) dX7_told_58 (by decide) rfl (by omega) (by omega) (fun h58 => ?_) (fun h58 => ?_)
          · skip
            refine g_iload_n dX7_told_71 rfl rfl ?_
            refine g_bipush (v := nI 9) dX7_told_72 rfl (by decide) ?_
            refine g_icmp_neN (t := 84) dX7_told_74 (by decide) rfl (by omega) (by omega) (fun h74 => ?_) (fun h74 => ?_)
            · exact absurd rfl h74
            · skip
              refine g_aload_n dX7_told_77 rfl rfl ?_
              refine g_get f_X7_151 dX7_told_78 rfl 0 rfl rfl ?_
              refine g_goto (q := 97) dX7_told_81 (by decide) ?_
              exact g_iret dX7_told_97 rfl (Nat.le_refl _) (Nat.le_refl _) (⟨rfl, rfl⟩)
          · exact absurd h58 (by omega)
        · exact absurd h42 (by omega)
      · exact absurd h29 (by omega)
    · exact absurd h16 (by omega)
  · exact absurd (inI_f h7) (by decide +kernel)
theorem c_tog1 (sk : Nat → Nat) {h mt mo md ms mn mi mz mk mw mf mr mb mu : Nat} {ty li se fAt at_ so sta sz fl ru : Int32} {iha isn : Bool} {T : Nat → Nat} {s : PSt} (hT : T 0 ≤ 30) (hs0 : SB s.1) : Ct sk yX7_together cX7_together 5 (some .int) 0 0 0 [oMod h mt ty mo md ms mn mi mz mk mw mf li se fAt at_ so sta sz fl iha isn ru mr mb mu, cI ms 32 (fS s)] [.ref h, .int (nI 0), .int (nI (T 0) - nI 1)] (zD (some (.int (nI (sumR s.1 (T 0) 0)))) [oMod h mt ty mo md ms mn mi mz mk mw mf li se fAt at_ so sta sz fl iha isn ru mr mb mu, cI ms 32 (fS s)]) := by
  by_cases h0 : T 0 = 0
  · rw [h0]
    refine Ct.of (own := RX7) (l := [some (.ref h), some (.int (nI 0)), some (.int (nI 0 - nI 1)), none, none]) (by decide) rfl (Nat.le_of_ble_eq_true rfl) rfl ?_
    refine g_iconst (v := nI 0) dX7_together_0 rfl (by decide) ?_
    refine g_istore_n dX7_together_1 rfl (by decide) rfl rfl ?_
    refine g_iload_n dX7_together_2 rfl rfl ?_
    refine g_istore dX7_together_3 rfl (by decide) rfl rfl ?_
    refine g_iload dX7_together_5 rfl rfl ?_
    refine g_iload_n dX7_together_7 rfl rfl ?_
    refine g_icmp_gt (t := 27) dX7_together_8 (by decide) rfl (fun h8 => ?_) (fun h8 => ?_)
    · skip
      refine g_iload_n dX7_together_27 rfl rfl ?_
      exact g_iret dX7_together_28 rfl (Nat.le_refl _) (Nat.le_refl _) (⟨rfl, rfl⟩)
    · exact absurd (show nI 0 - nI 1 < nI 0 by decide) h8
  · have e : nI (T 0) - nI 1 = nI (T 0 - 1) := pk_sub (by omega)
    rw [e]
    have h1 := c_X7_together sk (h := h) (mt := mt) (mo := mo) (md := md) (ms := ms) (mn := mn) (mi := mi) (mz := mz) (mk := mk) (mw := mw) (mf := mf) (mr := mr) (mb := mb) (mu := mu) (ty := ty) (li := li) (se := se) (fAt := fAt) (at_ := at_) (so := so) (sta := sta) (sz := sz) (fl := fl) (ru := ru) (iha := iha) (isn := isn) (s := s) (i := 0) (e := T 0 - 1) (by omega) hs0 (by omega)
    rw [show T 0 - 1 + 1 - 0 = T 0 by omega] at h1
    exact h1
set_option maxRecDepth 20000 in
theorem c_X7_told10 (sk : Nat → Nat) {h mt mo md ms mn mi mz mk mw mf mr mb mu : Nat} {ty li se fAt at_ so sta sz fl ru : Int32} {iha isn : Bool} {T : Nat → Nat} {s : PSt} (hT : T 0 ≤ 30) (hs0 : SB s.1) : Ct sk yX7_told cX7_told 2 (some .int) 2 0 0 [oMod h mt ty mo md ms mn mi mz mk mw mf li se fAt at_ so sta sz fl iha isn ru mr mb mu, cI mo 56 (fI T), cI ms 32 (fS s)] [.ref h, .int (nI 10)] (zD (some (.int (nI (sumR s.1 (T 0) 0)))) [oMod h mt ty mo md ms mn mi mz mk mw mf li se fAt at_ so sta sz fl iha isn ru mr mb mu, cI mo 56 (fI T), cI ms 32 (fS s)]) := by
  refine Ct.of (own := RX7) (l := [some (.ref h), some (.int (nI 10))]) (by decide) rfl (Nat.le_of_ble_eq_true rfl) rfl ?_
  refine g_iload_n dX7_told_0 rfl rfl ?_
  refine g_iconst (v := nI 0) dX7_told_1 rfl (by decide) ?_
  refine g_bipush (v := nI 10) dX7_told_2 rfl (by decide) ?_
  refine g_callS (c_X7_in sk) m_X7_61 a_X7_in dX7_told_4 rfl [] rfl rfl rfl rfl (by decide) (by decide) (by decide) (by decide) (Nat.le_of_ble_eq_true rfl) (fun r w hK => ?_)
  obtain ⟨rfl, rfl⟩ := hK
  refine ⟨rfl, ?_⟩
  dsimp only [puts, List.set, Option.toList, List.cons_append, List.nil_append, List.append_nil]
  refine g_if_neB (t := 13) dX7_told_7 (by decide) rfl (fun h7 => ?_) (fun h7 => ?_)
  · skip
    refine g_iload_n dX7_told_13 rfl rfl ?_
    refine g_bipush (v := nI 6) dX7_told_14 rfl (by decide) ?_
    refine g_icmp_geN (t := 26) dX7_told_16 (by decide) rfl (by omega) (by omega) (fun h16 => ?_) (fun h16 => ?_)
    · skip
      refine g_iload_n dX7_told_26 rfl rfl ?_
      refine g_bipush (v := nI 6) dX7_told_27 rfl (by decide) ?_
      refine g_icmp_neN (t := 39) dX7_told_29 (by decide) rfl (by omega) (by omega) (fun h29 => ?_) (fun h29 => ?_)
      · skip
        refine g_iload_n dX7_told_39 rfl rfl ?_
        refine g_bipush (v := nI 7) dX7_told_40 rfl (by decide) ?_
        refine g_icmp_neN (t := 55) dX7_told_42 (by decide) rfl (by omega) (by omega) (fun h42 => ?_) (fun h42 => ?_)
        · skip
          refine g_iload_n dX7_told_55 rfl rfl ?_
          refine g_bipush (v := nI 8) dX7_told_56 rfl (by decide) ?_
          refine g_icmp_neN (t := 71) dX7_told_58 (by decide) rfl (by omega) (by omega) (fun h58 => ?_) (fun h58 => ?_)
          · skip
            refine g_iload_n dX7_told_71 rfl rfl ?_
            refine g_bipush (v := nI 9) dX7_told_72 rfl (by decide) ?_
            refine g_icmp_neN (t := 84) dX7_told_74 (by decide) rfl (by omega) (by omega) (fun h74 => ?_) (fun h74 => ?_)
            · skip
              refine g_aload_n dX7_told_84 rfl rfl ?_
              refine g_iconst (v := nI 0) dX7_told_85 rfl (by decide) ?_
              refine g_aload_n dX7_told_86 rfl rfl ?_
              refine g_get f_X7_13 dX7_told_87 rfl 0 rfl rfl ?_
              refine g_iconst (v := nI 0) dX7_told_90 rfl (by decide) ?_
              refine g_ialdN (v := nI _) dX7_told_91 rfl 1 rfl (by omega) (by decide) (rfl) ?_
              refine g_iconst (v := nI 1) dX7_told_92 rfl (by decide) ?_
              refine g_isub dX7_told_93 rfl rfl ?_
              refine g_callV (c_tog1 sk hT hs0) m_X7_154 a_X7_together dX7_told_94 rfl [0, 2] rfl rfl 0 rfl rfl rfl (by decide) (by decide) (by decide) (by decide) (Nat.le_of_ble_eq_true rfl) (fun r w hK => ?_)
              obtain ⟨rfl, rfl⟩ := hK
              refine ⟨rfl, ?_⟩
              dsimp only [puts, List.set, Option.toList, List.cons_append, List.nil_append, List.append_nil]
              exact g_iret dX7_told_97 rfl (Nat.le_refl _) (Nat.le_refl _) (⟨rfl, rfl⟩)
            · exact absurd h74 (by omega)
          · exact absurd h58 (by omega)
        · exact absurd h42 (by omega)
      · exact absurd h29 (by omega)
    · exact absurd h16 (by omega)
  · exact absurd (inI_f h7) (by decide +kernel)
set_option maxRecDepth 20000 in
theorem c_X7_climberF (sk : Nat → Nat) {h mt mo md ms mn mi mz mk mw mf mr mb mu : Nat} {ty li se fAt at_ so sta sz fl ru : Int32} {iha isn : Bool} {T : Nat → Nat} {x z : Int32} (hC : T 1 ≤ 6) (hx : inR x (T 1) = false) : Ct sk yX7_climber cX7_climber 3 (some .int) 2 0 0 [oMod h mt ty mo md ms mn mi mz mk mw mf li se fAt at_ so sta sz fl iha isn ru mr mb mu, cI mo 56 (fI T)] [.ref h, .int x, .int z] (zD (some (.int (-1000000001))) [oMod h mt ty mo md ms mn mi mz mk mw mf li se fAt at_ so sta sz fl iha isn ru mr mb mu, cI mo 56 (fI T)]) := by
  refine Ct.of (own := RX7) (l := [some (.ref h), some (.int x), some (.int z)]) (by decide) rfl (Nat.le_of_ble_eq_true rfl) rfl ?_
  refine g_aload_n dX7_climber_0 rfl rfl ?_
  refine g_iload_n dX7_climber_1 rfl rfl ?_
  refine g_callV (c_X7_isClimber sk hC) m_X7_169 a_X7_isClimber dX7_climber_2 rfl [0, 1] rfl rfl 0 rfl rfl rfl (by decide) (by decide) (by decide) (by decide) (Nat.le_of_ble_eq_true rfl) (fun r w hK => ?_)
  obtain ⟨rfl, rfl⟩ := hK
  refine ⟨rfl, ?_⟩
  dsimp only [puts, List.set, Option.toList, List.cons_append, List.nil_append, List.append_nil]
  refine g_if_neB (t := 11) dX7_climber_5 (by decide) rfl (fun h5 => ?_) (fun h5 => ?_)
  · exact absurd h5 (by rw [hx]; decide)
  · skip
    refine g_ldc dX7_climber_8 rfl k_X7_161 ?_
    exact g_iret dX7_climber_10 rfl (Nat.le_refl _) (Nat.le_refl _) (⟨rfl, rfl⟩)
set_option maxRecDepth 20000 in
theorem c_X7_climberN (sk : Nat → Nat) {h mt mo md ms mn mi mz mk mw mf mr mb mu : Nat} {ty li se fAt at_ so sta sz fl ru : Int32} {iha isn : Bool} {T : Nat → Nat} {c : Nat} {z : Int32} (hC : T 1 ≤ 6) (hc : c < T 1) (hz : z.toInt < 0 ∨ 3 < z.toInt) : Ct sk yX7_climber cX7_climber 3 (some .int) 2 0 0 [oMod h mt ty mo md ms mn mi mz mk mw mf li se fAt at_ so sta sz fl iha isn ru mr mb mu, cI mo 56 (fI T)] [.ref h, .int (nI c), .int z] (zD (some (.int (-1000000002))) [oMod h mt ty mo md ms mn mi mz mk mw mf li se fAt at_ so sta sz fl iha isn ru mr mb mu, cI mo 56 (fI T)]) := by
  refine Ct.of (own := RX7) (l := [some (.ref h), some (.int (nI c)), some (.int z)]) (by decide) rfl (Nat.le_of_ble_eq_true rfl) rfl ?_
  refine g_aload_n dX7_climber_0 rfl rfl ?_
  refine g_iload_n dX7_climber_1 rfl rfl ?_
  refine g_callV (c_X7_isClimber sk hC) m_X7_169 a_X7_isClimber dX7_climber_2 rfl [0, 1] rfl rfl 0 rfl rfl rfl (by decide) (by decide) (by decide) (by decide) (Nat.le_of_ble_eq_true rfl) (fun r w hK => ?_)
  obtain ⟨rfl, rfl⟩ := hK
  refine ⟨rfl, ?_⟩
  dsimp only [puts, List.set, Option.toList, List.cons_append, List.nil_append, List.append_nil]
  refine g_if_neB (t := 11) dX7_climber_5 (by decide) rfl (fun h5 => ?_) (fun h5 => ?_)
  · skip
    refine g_iload_n dX7_climber_11 rfl rfl ?_
    refine g_iconst (v := nI 0) dX7_climber_12 rfl (by decide) ?_
    refine g_iconst (v := nI 3) dX7_climber_13 rfl (by decide) ?_
    refine g_callS (c_X7_in sk) m_X7_61 a_X7_in dX7_climber_14 rfl [] rfl rfl rfl rfl (by decide) (by decide) (by decide) (by decide) (Nat.le_of_ble_eq_true rfl) (fun r w hK => ?_)
    obtain ⟨rfl, rfl⟩ := hK
    refine ⟨rfl, ?_⟩
    dsimp only [puts, List.set, Option.toList, List.cons_append, List.nil_append, List.append_nil]
    refine g_if_neB (t := 23) dX7_climber_17 (by decide) rfl (fun h17 => ?_) (fun h17 => ?_)
    · exact absurd (inI_t h17) (not_not_intro (by rw [Int32.lt_iff_toInt_lt, Int32.lt_iff_toInt_lt, nI_toInt (by omega), nI_toInt (by omega)]; omega))
    · skip
      refine g_ldc dX7_climber_20 rfl k_X7_65 ?_
      exact g_iret dX7_climber_22 rfl (Nat.le_refl _) (Nat.le_refl _) (⟨rfl, rfl⟩)
  · exact absurd h5 (by rw [inR_N hc (by omega)]; decide)
set_option maxRecDepth 20000 in
theorem c_X7_towerF (sk : Nat → Nat) {h mt mo md ms mn mi mz mk mw mf mr mb mu : Nat} {ty li se fAt at_ so sta sz fl ru : Int32} {iha isn : Bool} {T : Nat → Nat} {x y : Int32} (hC : T 1 ≤ 6) (hx : inR x (T 1) = false ∨ inR y (T 1) = false ∨ x = y) : Ct sk yX7_tower cX7_tower 3 (some .int) 2 0 0 [oMod h mt ty mo md ms mn mi mz mk mw mf li se fAt at_ so sta sz fl iha isn ru mr mb mu, cI mo 56 (fI T)] [.ref h, .int x, .int y] (zD (some (.int (-1000000001))) [oMod h mt ty mo md ms mn mi mz mk mw mf li se fAt at_ so sta sz fl iha isn ru mr mb mu, cI mo 56 (fI T)]) := by
  refine Ct.of (own := RX7) (l := [some (.ref h), some (.int x), some (.int y)]) (by decide) rfl (Nat.le_of_ble_eq_true rfl) rfl ?_
  refine g_aload_n dX7_tower_0 rfl rfl ?_
  refine g_iload_n dX7_tower_1 rfl rfl ?_
  refine g_callV (c_X7_isClimber sk hC) m_X7_169 a_X7_isClimber dX7_tower_2 rfl [0, 1] rfl rfl 0 rfl rfl rfl (by decide) (by decide) (by decide) (by decide) (Nat.le_of_ble_eq_true rfl) (fun r w hK => ?_)
  obtain ⟨rfl, rfl⟩ := hK
  refine ⟨rfl, ?_⟩
  dsimp only [puts, List.set, Option.toList, List.cons_append, List.nil_append, List.append_nil]
  refine g_if_eqB (t := 21) dX7_tower_5 (by decide) rfl (fun h5 => ?_) (fun h5 => ?_)
  · skip
    refine g_ldc dX7_tower_21 rfl k_X7_161 ?_
    exact g_iret dX7_tower_23 rfl (Nat.le_refl _) (Nat.le_refl _) (⟨rfl, rfl⟩)
  · skip
    refine g_aload_n dX7_tower_8 rfl rfl ?_
    refine g_iload_n dX7_tower_9 rfl rfl ?_
    refine g_callV (c_X7_isClimber sk hC) m_X7_169 a_X7_isClimber dX7_tower_10 rfl [0, 1] rfl rfl 0 rfl rfl rfl (by decide) (by decide) (by decide) (by decide) (Nat.le_of_ble_eq_true rfl) (fun r w hK => ?_)
    obtain ⟨rfl, rfl⟩ := hK
    refine ⟨rfl, ?_⟩
    dsimp only [puts, List.set, Option.toList, List.cons_append, List.nil_append, List.append_nil]
    refine g_if_eqB (t := 21) dX7_tower_13 (by decide) rfl (fun h13 => ?_) (fun h13 => ?_)
    · skip
      refine g_ldc dX7_tower_21 rfl k_X7_161 ?_
      exact g_iret dX7_tower_23 rfl (Nat.le_refl _) (Nat.le_refl _) (⟨rfl, rfl⟩)
    · skip
      refine g_iload_n dX7_tower_16 rfl rfl ?_
      refine g_iload_n dX7_tower_17 rfl rfl ?_
      refine g_icmp_ne (t := 24) dX7_tower_18 (by decide) rfl (fun h18 => ?_) (fun h18 => ?_)
      · exact absurd hx (by rw [h5, h13]; exact fun q => q.elim (fun q => absurd q (by decide)) (fun q => q.elim (fun q => absurd q (by decide)) h18))
      · skip
        refine g_ldc dX7_tower_21 rfl k_X7_161 ?_
        exact g_iret dX7_tower_23 rfl (Nat.le_refl _) (Nat.le_refl _) (⟨rfl, rfl⟩)
theorem nx_l (sd : Int32) : (((sd.toInt64 * 1103515245 + 12345) &&& 2147483647) : Int64).toInt32 = nxI sd := by
  rw [Int64.toInt32_and, Int64.toInt32_add, Int64.toInt32_mul, Int32.toInt32_toInt64]
  rfl
theorem drawI (sd : Int32) {C : Nat} (h1 : 1 ≤ C) (h6 : C ≤ 6) : nxI sd / nI 65536 - nxI sd / nI 65536 / nI C * nI C = nI (drawN sd C) := (drawN_ok sd h1 h6).1
set_option maxRecDepth 20000 in
theorem lp_mdrift95 (sk : Nat → Nat) {ru : Int32} {h mt mo md ms mn mi mz mk mw mf mr mb mu : Nat} {ty li fAt at_ so sta sz fl : Int32} {iha isn : Bool} {T : Nat → Nat} {w a r : Nat → Nat} {s : PSt} {x : Nat} {Z : PSt × Int32} {l2 l3 : Option Value} (hB : PB (T 0) (T 1) (T 4) (T 5) w a r) (hW : TWR T w a r) : GG sk RX7 yX7_drift cX7_drift 4 (some .int) 2 0 0 (fun q w1 => q = some (.int Z.1.2.2) ∧ ∃ (ru2 : Int32) (fn2 : Nat → Int32), w1 = [oMod h mt ty mo md ms mn mi mz mk mw mf li Z.2 fAt at_ so sta sz fl iha isn ru2 mr mb mu, cI mo 56 (fI T), cI ms 32 (fS Z.1), cI mn 32 fn2]) 0 0 95 [some (.ref h), some (.int (nI x)), l2, l3] [] [oMod h mt ty mo md ms mn mi mz mk mw mf li Z.2 fAt at_ so sta sz fl iha isn ru mr mb mu, cI mo 56 (fI T), cI ms 32 (fS s), cI mn 32 (fS Z.1)] := by
  refine g_aload_n dX7_drift_95 rfl rfl ?_
  refine g_callV (c_X7_takes sk) m_X7_180 a_X7_takes dX7_drift_96 rfl [0, 3, 2] rfl rfl 0 rfl rfl rfl (by decide) (by decide) (by decide) (by decide) (Nat.le_of_ble_eq_true rfl) (fun r w hK => ?_)
  obtain ⟨rfl, rfl⟩ := hK
  refine ⟨rfl, ?_⟩
  dsimp only [puts, List.set, Option.toList, List.cons_append, List.nil_append, List.append_nil]
  refine g_aload_n dX7_drift_99 rfl rfl ?_
  refine g_get f_X7_19 dX7_drift_100 rfl 0 rfl rfl ?_
  refine g_bipush (v := nI 31) dX7_drift_103 rfl (by decide) ?_
  refine g_ialdN (v := Z.1.2.2) dX7_drift_105 rfl 2 rfl (by omega) (by decide) (rfl) ?_
  exact g_iret dX7_drift_106 rfl (Nat.le_refl _) (Nat.le_refl _) (⟨rfl, _, _, rfl⟩)
set_option maxRecDepth 20000 in
theorem lp_mdrift (sk : Nat → Nat) {h mt mo md ms mn mi mz mk mw mf mr mb mu : Nat} {ty li fAt at_ so sta sz fl : Int32} {iha isn : Bool} {T : Nat → Nat} {w a r : Nat → Nat} {s : PSt} {x : Nat} {Z : PSt × Int32} (hB : PB (T 0) (T 1) (T 4) (T 5) w a r) (hW : TWR T w a r) (hC1 : 1 ≤ T 1) (hx : x ≤ 99) : ∀ (n i : Nat) (t : PSt) (sd ru : Int32) (l3 : Option Value), i + n = x → SB t.1 → driftR (T 0) (T 1) (T 4) (T 5) w a r n t sd = Z → GG sk RX7 yX7_drift cX7_drift 4 (some .int) 2 0 0 (fun q w1 => q = some (.int Z.1.2.2) ∧ ∃ (ru2 : Int32) (fn2 : Nat → Int32), w1 = [oMod h mt ty mo md ms mn mi mz mk mw mf li Z.2 fAt at_ so sta sz fl iha isn ru2 mr mb mu, cI mo 56 (fI T), cI ms 32 (fS Z.1), cI mn 32 fn2]) 0 0 31 [some (.ref h), some (.int (nI x)), some (.int (nI i)), l3] [] [oMod h mt ty mo md ms mn mi mz mk mw mf li sd fAt at_ so sta sz fl iha isn ru mr mb mu, cI mo 56 (fI T), cI ms 32 (fS s), cI mn 32 (fS t)] := by
  intro n
  induction n with
  | zero =>
    intro i t sd ru l3 hi ht hZ
    rw [driftR] at hZ
    subst hZ
    refine g_iload_n dX7_drift_31 rfl rfl ?_
    refine g_iload_n dX7_drift_32 rfl rfl ?_
    refine g_icmp_geN (t := 95) dX7_drift_33 (by decide) rfl (by omega) (by omega) (fun h33 => ?_) (fun h33 => ?_)
    · skip
      exact lp_mdrift95 sk hB hW
    · exact absurd h33 (by omega)
  | succ n ih =>
    intro i t sd ru l3 hi ht hZ
    rw [driftR] at hZ
    have hd := drawN_ok sd hC1 hB.2.1
    refine g_iload_n dX7_drift_31 rfl rfl ?_
    refine g_iload_n dX7_drift_32 rfl rfl ?_
    refine g_icmp_geN (t := 95) dX7_drift_33 (by decide) rfl (by omega) (by omega) (fun h33 => ?_) (fun h33 => ?_)
    · exact absurd h33 (by omega)
    · skip
      refine g_aload_n dX7_drift_36 rfl rfl ?_
      refine g_get f_X7_22 dX7_drift_37 rfl 0 rfl rfl ?_
      refine g_bipush (v := nI 31) dX7_drift_40 rfl (by decide) ?_
      refine g_ialdN (v := t.2.2) dX7_drift_42 rfl 3 rfl (by omega) (by decide) (rfl) ?_
      refine g_iconst (v := -1) dX7_drift_43 rfl (by decide) ?_
      refine g_icmp_ne (t := 95) dX7_drift_44 (by decide) rfl (fun h44 => ?_) (fun h44 => ?_)
      · rw [if_neg h44] at hZ
        subst hZ
        exact lp_mdrift95 sk hB hW
      · rw [if_pos h44] at hZ
        refine g_aload_n dX7_drift_47 rfl rfl ?_
        refine g_aload_n dX7_drift_48 rfl rfl ?_
        refine g_get f_X7_183 dX7_drift_49 rfl 0 rfl rfl ?_
        refine g_i2l dX7_drift_52 rfl rfl ?_
        refine g_ldc2 dX7_drift_53 rfl k_X7_186 ?_
        refine g_lmul dX7_drift_56 rfl rfl ?_
        refine g_ldc2 dX7_drift_57 rfl k_X7_188 ?_
        refine g_ladd dX7_drift_60 rfl rfl ?_
        refine g_ldc2 dX7_drift_61 rfl k_X7_190 ?_
        refine g_land dX7_drift_64 rfl rfl ?_
        refine g_l2i dX7_drift_65 rfl (nx_l sd) ?_
        refine g_putI f_X7_183 dX7_drift_66 rfl 0 rfl (Nat.le_of_ble_eq_true rfl) rfl ?_
        dsimp only [List.set]
        refine g_aload_n dX7_drift_69 rfl rfl ?_
        refine g_aload_n dX7_drift_70 rfl rfl ?_
        refine g_get f_X7_183 dX7_drift_71 rfl 0 rfl rfl ?_
        refine g_ldc dX7_drift_74 rfl k_X7_192 ?_
        refine g_idiv dX7_drift_76 rfl (by decide) (rfl) ?_
        refine g_aload_n dX7_drift_77 rfl rfl ?_
        refine g_get f_X7_13 dX7_drift_78 rfl 0 rfl rfl ?_
        refine g_iconst (v := nI 1) dX7_drift_81 rfl (by decide) ?_
        refine g_ialdN (v := nI _) dX7_drift_82 rfl 1 rfl (by omega) (by decide) (rfl) ?_
        refine g_irem dX7_drift_83 rfl (nI_ne0 (by omega) (by have := hB.2.1; omega)) (drawI sd hC1 hB.2.1) ?_
        refine g_iconst (v := nI 0) dX7_drift_84 rfl (by decide) ?_
        refine g_callV (c_goes sk (sand := false) hB hW hd.2 ht) m_X7_176 a_X7_goes dX7_drift_85 rfl [0, 1, 3] rfl rfl 0 rfl rfl rfl (by decide) (by decide) (by decide) (by decide) (Nat.le_of_ble_eq_true rfl) (fun r w hK => ?_)
        obtain ⟨rfl, rfl⟩ := hK
        refine ⟨rfl, ?_⟩
        dsimp only [puts, List.set, Option.toList, List.cons_append, List.nil_append, List.append_nil]
        refine g_istore_n dX7_drift_88 rfl (by decide) rfl rfl ?_
        refine g_iinc dX7_drift_89 rfl rfl (nI_1 _) (by decide) rfl rfl ?_
        refine g_goto (q := 31) dX7_drift_92 (by decide) ?_
        exact ih (i + 1) _ _ _ _ (by omega) (go1_SB ht) hZ
set_option maxRecDepth 20000 in
theorem c_X7_driftN (sk : Nat → Nat) {h mt mo md ms mn mi mz mk mw mf mr mb mu : Nat} {ty li se fAt at_ so sta sz fl ru : Int32} {iha isn : Bool} {T : Nat → Nat} {x : Int32} (hC : T 1 ≤ 6) (hz : ¬ drfC (T 1) x = 0) : Ct sk yX7_drift cX7_drift 4 (some .int) 2 0 0 [oMod h mt ty mo md ms mn mi mz mk mw mf li se fAt at_ so sta sz fl iha isn ru mr mb mu, cI mo 56 (fI T)] [.ref h, .int x] (zD (some (.int (drfC (T 1) x))) [oMod h mt ty mo md ms mn mi mz mk mw mf li se fAt at_ so sta sz fl iha isn ru mr mb mu, cI mo 56 (fI T)]) := by
  refine Ct.of (own := RX7) (l := [some (.ref h), some (.int x), none, none]) (by decide) rfl (Nat.le_of_ble_eq_true rfl) rfl ?_
  refine g_iload_n dX7_drift_0 rfl rfl ?_
  refine g_iconst (v := nI 1) dX7_drift_1 rfl (by decide) ?_
  refine g_bipush (v := nI 99) dX7_drift_2 rfl (by decide) ?_
  refine g_callS (c_X7_in sk) m_X7_61 a_X7_in dX7_drift_4 rfl [] rfl rfl rfl rfl (by decide) (by decide) (by decide) (by decide) (Nat.le_of_ble_eq_true rfl) (fun r w hK => ?_)
  obtain ⟨rfl, rfl⟩ := hK
  refine ⟨rfl, ?_⟩
  dsimp only [puts, List.set, Option.toList, List.cons_append, List.nil_append, List.append_nil]
  refine g_if_neB (t := 13) dX7_drift_7 (by decide) rfl (fun h7 => ?_) (fun h7 => ?_)
  · have hC0 : T 1 = 0 := Decidable.byContradiction (fun q => hz (by rw [drfC, if_neg (inI_t h7), if_neg q]))
    rw [drfC, if_neg (inI_t h7), if_pos hC0]
    refine g_aload_n dX7_drift_13 rfl rfl ?_
    refine g_get f_X7_13 dX7_drift_14 rfl 0 rfl rfl ?_
    refine g_iconst (v := nI 1) dX7_drift_17 rfl (by decide) ?_
    refine g_ialdN (v := nI _) dX7_drift_18 rfl 1 rfl (by omega) (by decide) (rfl) ?_
    refine g_if_ne (t := 25) dX7_drift_19 (by decide) rfl (fun h19 => ?_) (fun h19 => ?_)
    · exact absurd (by rw [hC0]; rfl) h19
    · skip
      refine g_ldc dX7_drift_22 rfl k_X7_175 ?_
      exact g_iret dX7_drift_24 rfl (Nat.le_refl _) (Nat.le_refl _) (⟨rfl, rfl⟩)
  · rw [drfC, if_pos (inI_f h7)]
    refine g_ldc dX7_drift_10 rfl k_X7_65 ?_
    exact g_iret dX7_drift_12 rfl (Nat.le_refl _) (Nat.le_refl _) (⟨rfl, rfl⟩)
set_option maxRecDepth 20000 in
theorem c_X7_drift (sk : Nat → Nat) {h mt mo md ms mn mi mz mk mw mf mr mb mu : Nat} {ty li fAt at_ so sta sz fl : Int32} {iha isn : Bool} {T : Nat → Nat} {w a r : Nat → Nat} {s : PSt} {x : Nat} {sd ru : Int32} {fn : Nat → Int32} {Z : PSt × Int32} (hB : PB (T 0) (T 1) (T 4) (T 5) w a r) (hW : TWR T w a r) (hC1 : 1 ≤ T 1) (hx : 1 ≤ x ∧ x ≤ 99) (hs0 : SB s.1) (hZ : driftR (T 0) (T 1) (T 4) (T 5) w a r x s sd = Z) : Ct sk yX7_drift cX7_drift 4 (some .int) 2 0 0 [oMod h mt ty mo md ms mn mi mz mk mw mf li sd fAt at_ so sta sz fl iha isn ru mr mb mu, cI mo 56 (fI T), cI ms 32 (fS s), cI mn 32 fn] [.ref h, .int (nI x)] (fun q w1 => q = some (.int Z.1.2.2) ∧ ∃ (ru2 : Int32) (fn2 : Nat → Int32), w1 = [oMod h mt ty mo md ms mn mi mz mk mw mf li Z.2 fAt at_ so sta sz fl iha isn ru2 mr mb mu, cI mo 56 (fI T), cI ms 32 (fS Z.1), cI mn 32 fn2]) := by
  have hC6 := hB.2.1
  refine Ct.of (own := RX7) (l := [some (.ref h), some (.int (nI x)), none, none]) (by decide) rfl (Nat.le_of_ble_eq_true rfl) rfl ?_
  refine g_iload_n dX7_drift_0 rfl rfl ?_
  refine g_iconst (v := nI 1) dX7_drift_1 rfl (by decide) ?_
  refine g_bipush (v := nI 99) dX7_drift_2 rfl (by decide) ?_
  refine g_callS (c_X7_in sk) m_X7_61 a_X7_in dX7_drift_4 rfl [] rfl rfl rfl rfl (by decide) (by decide) (by decide) (by decide) (Nat.le_of_ble_eq_true rfl) (fun r w hK => ?_)
  obtain ⟨rfl, rfl⟩ := hK
  refine ⟨rfl, ?_⟩
  dsimp only [puts, List.set, Option.toList, List.cons_append, List.nil_append, List.append_nil]
  refine g_if_neB (t := 13) dX7_drift_7 (by decide) rfl (fun h7 => ?_) (fun h7 => ?_)
  · skip
    refine g_aload_n dX7_drift_13 rfl rfl ?_
    refine g_get f_X7_13 dX7_drift_14 rfl 0 rfl rfl ?_
    refine g_iconst (v := nI 1) dX7_drift_17 rfl (by decide) ?_
    refine g_ialdN (v := nI _) dX7_drift_18 rfl 1 rfl (by omega) (by decide) (rfl) ?_
    refine g_if_ne (t := 25) dX7_drift_19 (by decide) rfl (fun h19 => ?_) (fun h19 => ?_)
    · skip
      refine g_aload_n dX7_drift_25 rfl rfl ?_
      refine g_callV (c_X7_lays sk) m_X7_172 a_X7_lays dX7_drift_26 rfl [0, 2, 3] rfl rfl 0 rfl rfl rfl (by decide) (by decide) (by decide) (by decide) (Nat.le_of_ble_eq_true rfl) (fun r w hK => ?_)
      obtain ⟨rfl, rfl⟩ := hK
      refine ⟨rfl, ?_⟩
      dsimp only [puts, List.set, Option.toList, List.cons_append, List.nil_append, List.append_nil]
      refine g_iconst (v := nI 0) dX7_drift_29 rfl (by decide) ?_
      refine g_istore_n dX7_drift_30 rfl (by decide) rfl rfl ?_
      exact lp_mdrift sk hB hW hC1 hx.2 x 0 s sd ru none (by omega) hs0 hZ
    · exact absurd h19 (nI_ne0 (by omega) (by omega))
  · exact absurd h7 (by rw [inI_N hx.1 hx.2 (by decide)]; decide)
